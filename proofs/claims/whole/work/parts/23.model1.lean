set_option maxHeartbeats 4000000 in
set_option maxRecDepth 100000 in
theorem c6_in (l : Launch) (D : va_G) (g : hk_G) (ti : Nat) (v : Int64) (lo : Int64) (up : Int64)  : Met l yX6_in wsX6_in ({ frames := 0, cells := 0, slots := 0, locals := 0 }) (va_Pc [.long v, .long lo, .long up] (hk_Ro D g ti [])) (vp_Si (fun r => r = bI (inL v lo up))) 0 0 (fun _ => False) := by
  refine Met.ofW (cc := cX6_in) (maxL := 6) (ret := (some .boolean)) (by decide) rfl ?_
  intro p e s m args below meth c s₁ Bd hml hv
  obtain ⟨rfl, hP, hE⟩ := hv
  have hx := Bd.exec
  have hb := Bd.bytes
  have hr := Bd.returns
  have hts := atoms_spec (ws := wsX6_in) Bd.pre
  have hown : s.vm.findClass RX6 = some m.cls := findClass_of_methodNamed Bd.named
  have hlocks := Bd.notSynchronized
  have hK := hE.1
  have hS : va_S (fun _ => False) s.heap s.heap [] := va_S.rf
  have hl := lv_entry ([.long v, .long lo, .long up]) (n := 6) (Nat.le_of_ble_eq_true rfl)
  rw [lg_entry_eq]
  generalize (lg_sl ([.long v, .long lo, .long up]) ++ List.replicate (6 - (lg_sl ([.long v, .long lo, .long up])).length) Slot.unset).toArray = ls at hl ⊢
  have hl : lv_has ls 6 [(0, .long v), (2, .long lo), (4, .long up)] := hl
  refine lv_lload_n hx hb dX6_in_0 rfl (lv_at hl 0 rfl) ?_
  refine lv_lload_n hx hb dX6_in_1 rfl (lv_at hl 1 rfl) ?_
  refine W.lcmp hx hb dX6_in_2 ?_
  refine lv_if_lt (tgt := 17) hx hb dX6_in_3 (by decide) (fun c_1 => ?_) (fun c_1 => ?_)
  · have c_1h : (lg_cmp v lo) < (0 : Int32) := c_1
    refine lv_iconst (v := 0) hx hb dX6_in_17 (by decide) ?_
    exact W.zret (v := 0) hx hb hr (hk_z0) (fun tt ht hW => ⟨_, rfl, by rw [inL_1 ((lg_lt _ _).mp c_1)]; rfl, ht⟩) (fun _ h => by cases h) dX6_in_18
  · have c_1h : ¬ (lg_cmp v lo) < (0 : Int32) := c_1
    refine lv_lload_n hx hb dX6_in_6 rfl (lv_at hl 0 rfl) ?_
    refine lv_lload hx hb dX6_in_7 (lv_at hl 2 rfl) ?_
    refine W.lcmp hx hb dX6_in_9 ?_
    refine lv_if_gt (tgt := 17) hx hb dX6_in_10 (by decide) (fun c_2 => ?_) (fun c_2 => ?_)
    · have c_2h : (0 : Int32) < (lg_cmp v up) := c_2
      refine lv_iconst (v := 0) hx hb dX6_in_17 (by decide) ?_
      exact W.zret (v := 0) hx hb hr (hk_z0) (fun tt ht hW => ⟨_, rfl, by rw [inL_2 ((lg_gt _ _).mp c_2)]; rfl, ht⟩) (fun _ h => by cases h) dX6_in_18
    · have c_2h : ¬ (0 : Int32) < (lg_cmp v up) := c_2
      refine lv_iconst (v := 1) hx hb dX6_in_13 (by decide) ?_
      refine lv_goto (tgt := 18) hx hb dX6_in_14 (by decide) ?_
      exact W.zret (v := 1) hx hb hr (hk_z1) (fun tt ht hW => ⟨_, rfl, by rw [inL_3 (fun q => c_1 ((lg_lt _ _).mpr q)) (fun q => c_2 ((lg_gt _ _).mpr q))]; rfl, ht⟩) (fun _ h => by cases h) dX6_in_18
set_option maxHeartbeats 4000000 in
set_option maxRecDepth 100000 in
theorem c6_nodesOf (l : Launch) (D : va_G) (g : hk_G) (ti : Nat) (ar : Nat) (f : Nat → Int32)  : Met l yX6_nodesOf wsX6_nodesOf ({ frames := 0, cells := 0, slots := 0, locals := 0 }) (va_Pc [.ref ar] (hk_Ro D g ti [(ar, .inl (g.2.1, 147, .inl f))])) (vp_Si (fun r => r = f 0 + f 1)) 0 0 (fun _ => False) := by
  refine Met.ofW (cc := cX6_nodesOf) (maxL := 1) (ret := (some .int)) (by decide) rfl ?_
  intro p e s m args below meth c s₁ Bd hml hv
  obtain ⟨rfl, hP, hE⟩ := hv
  have hx := Bd.exec
  have hb := Bd.bytes
  have hr := Bd.returns
  have hts := atoms_spec (ws := wsX6_nodesOf) Bd.pre
  have hown : s.vm.findClass RX6 = some m.cls := findClass_of_methodNamed Bd.named
  have hlocks := Bd.notSynchronized
  have hK := hE.1
  have hS : va_S (fun _ => False) s.heap s.heap [] := va_S.rf
  have hl := lv_entry ([.ref ar]) (n := 1) (Nat.le_of_ble_eq_true rfl)
  rw [lg_entry_eq]
  generalize (lg_sl ([.ref ar]) ++ List.replicate (1 - (lg_sl ([.ref ar])).length) Slot.unset).toArray = ls at hl ⊢
  have hl : lv_has ls 1 [(0, .ref ar)] := hl
  refine lv_aload_n hx hb dX6_nodesOf_0 rfl (lv_at hl 0 rfl) ?_
  refine lv_iconst (v := 0) hx hb dX6_nodesOf_1 (by decide) ?_
  refine va_iald hx hb hK hP 0 1 rfl rfl (by unfold vp_in; decide) dX6_nodesOf_2 ?_
  refine hk_ti (f 0) (congrArg f (by decide)) ?_
  refine lv_aload_n hx hb dX6_nodesOf_3 rfl (lv_at hl 0 rfl) ?_
  refine lv_iconst (v := 1) hx hb dX6_nodesOf_4 (by decide) ?_
  refine va_iald hx hb hK hP 0 1 rfl rfl (by unfold vp_in; decide) dX6_nodesOf_5 ?_
  refine hk_ti (f 1) (congrArg f (by decide)) ?_
  refine lv_iadd hx hb dX6_nodesOf_6 ?_
  exact W.iret (v := ((f 0) + (f 1))) hx hb hr (fun tt ht hW => ⟨_, rfl, rfl, ht⟩) (fun _ h => by cases h) dX6_nodesOf_7
set_option maxHeartbeats 4000000 in
set_option maxRecDepth 100000 in
theorem c6_nodeCount (l : Launch) (D : va_G) (g : hk_G) (ti : Nat) (mo : Nat) (ms : Nat) (mr : Nat) (mk : Nat) (mt : Nat) (mv : Nat) (me : Nat) (fs : Nat → Int32) (km : Nat) (ln : Nat) (sp : Nat) (rs : Nat) (ws : Nat) (n : Nat) (N : Nat) (o : Nat) (cd : Nat) (wt : Nat) (ty : Nat → Nat) (pa : Nat → Nat) (pb : Nat → Nat) (vo : Nat → Nat) (nm : Int64) (hC : Cok n N o cd wt) (hM : MR n N o cd wt ty pa pb vo nm fs) : Met l yX6_nodeCount wsX6_nodeCount ({ frames := 1, cells := 0, slots := 0, locals := 20 }) (va_Pc [.ref mo] (hk_Ro D g ti [(mo, .inr (6, [.ref ms, .ref mr, .ref mk, .int (nI km), .ref mt, .int (nI ln), .int (nI sp), .int (nI rs), .int (nI ws), .ref mv, .ref me])), (ms, .inl (g.2.1, 147, .inl fs))])) (vp_Si (fun r => r = nI N)) 0 0 (fun _ => False) := by
  refine Met.ofW (cc := cX6_nodeCount) (maxL := 1) (ret := (some .int)) (by decide) rfl ?_
  intro p e s m args below meth c s₁ Bd hml hv
  obtain ⟨rfl, hP, hE⟩ := hv
  have hx := Bd.exec
  have hb := Bd.bytes
  have hr := Bd.returns
  have hts := atoms_spec (ws := wsX6_nodeCount) Bd.pre
  have hown : s.vm.findClass RX6 = some m.cls := findClass_of_methodNamed Bd.named
  have hlocks := Bd.notSynchronized
  have hK := hE.1
  have hi6 : ∀ w ∈ wsX60, w ∈ wsX6_nodeCount := fun w h => List.mem_cons_of_mem _ (List.mem_append_right _ h)
  have hS : va_S (fun _ => False) s.heap s.heap [] := va_S.rf
  have hl := lv_entry ([.ref mo]) (n := 1) (Nat.le_of_ble_eq_true rfl)
  rw [lg_entry_eq]
  generalize (lg_sl ([.ref mo]) ++ List.replicate (1 - (lg_sl ([.ref mo])).length) Slot.unset).toArray = ls at hl ⊢
  have hl : lv_has ls 1 [(0, .ref mo)] := hl
  refine lv_aload_n hx hb dX6_nodeCount_0 rfl (lv_at hl 0 rfl) ?_
  refine va_get (D := D) (ci := 6) (v := .ref ms) (C := RX6) (T := TX6) (N := 11) hx hb hts hi6 hown hK hP 0 rfl rfl 0 (by decide) (hts (.fieldLink RX6 7 "SelfCheckingCircuitModel" "s" "[I") (by decide +kernel)) (fun _ h9 => h9) rfl dX6_nodeCount_1 ?_
  refine hk_csi (va_runS (As := [.ref ms]) (rest := []) ⟨hx, hb, hml, hown, hts⟩ (c6_nodesOf l D g ti ms fs ) (va_cwS 1 hts gX6_nodeCount_X6_nodesOf rfl rfl rfl (by decide +kernel) ⟨Nat.le_of_ble_eq_true rfl, Nat.le_of_ble_eq_true rfl⟩) (hk_roS hE hP hS [1] rfl) rfl rfl hl.1 rfl (lv_room (Nat.le_of_ble_eq_true rfl)) dX6_nodeCount_4 ⟨Nat.zero_le _, Nat.zero_le _⟩) (fun r_1 hr_2 => ?_)
  subst hr_2
  refine hk_ti (nI N) (by rw [hM.1.1, hM.1.2.1, nI_add, Nat.add_sub_cancel' hC.2.2.1]) ?_
  exact W.iret (v := nI N) hx hb hr (fun tt ht hW => ⟨_, rfl, rfl, ht⟩) (fun _ h => by cases h) dX6_nodeCount_7
set_option maxHeartbeats 4000000 in
set_option maxRecDepth 100000 in
theorem c6_isNode (l : Launch) (D : va_G) (g : hk_G) (ti : Nat) (mo : Nat) (ms : Nat) (mr : Nat) (mk : Nat) (mt : Nat) (mv : Nat) (me : Nat) (fs : Nat → Int32) (km : Nat) (ln : Nat) (sp : Nat) (rs : Nat) (ws : Nat) (n : Nat) (N : Nat) (o : Nat) (cd : Nat) (wt : Nat) (ty : Nat → Nat) (pa : Nat → Nat) (pb : Nat → Nat) (vo : Nat → Nat) (nm : Int64) (v : Int32) (hC : Cok n N o cd wt) (hM : MR n N o cd wt ty pa pb vo nm fs) : Met l yX6_isNode wsX6_isNode ({ frames := 1, cells := 0, slots := 0, locals := 25 }) (va_Pc [.ref mo, .int v] (hk_Ro D g ti [(mo, .inr (6, [.ref ms, .ref mr, .ref mk, .int (nI km), .ref mt, .int (nI ln), .int (nI sp), .int (nI rs), .int (nI ws), .ref mv, .ref me])), (ms, .inl (g.2.1, 147, .inl fs))])) (vp_Si (fun r => r = bI (hn N v))) 0 0 (fun _ => False) := by
  refine Met.ofW (cc := cX6_isNode) (maxL := 2) (ret := (some .boolean)) (by decide) rfl ?_
  intro p e s m args below meth c s₁ Bd hml hv
  obtain ⟨rfl, hP, hE⟩ := hv
  have hx := Bd.exec
  have hb := Bd.bytes
  have hr := Bd.returns
  have hts := atoms_spec (ws := wsX6_isNode) Bd.pre
  have hown : s.vm.findClass RX6 = some m.cls := findClass_of_methodNamed Bd.named
  have hlocks := Bd.notSynchronized
  have hK := hE.1
  have hi6 : ∀ w ∈ wsX60, w ∈ wsX6_isNode := fun w h => List.mem_cons_of_mem _ (List.mem_append_right _ h)
  have hS : va_S (fun _ => False) s.heap s.heap [] := va_S.rf
  have hl := lv_entry ([.ref mo, .int v]) (n := 2) (Nat.le_of_ble_eq_true rfl)
  rw [lg_entry_eq]
  generalize (lg_sl ([.ref mo, .int v]) ++ List.replicate (2 - (lg_sl ([.ref mo, .int v])).length) Slot.unset).toArray = ls at hl ⊢
  have hl : lv_has ls 2 [(0, .ref mo), (1, .int v)] := hl
  refine lv_iload_n hx hb dX6_isNode_0 rfl (lv_at hl 1 rfl) ?_
  refine lv_i2l hx hb dX6_isNode_1 rfl ?_
  refine lv_lconst (v := 0) hx hb dX6_isNode_2 (by decide) ?_
  refine lv_aload_n hx hb dX6_isNode_3 rfl (lv_at hl 0 rfl) ?_
  refine va_get (D := D) (ci := 6) (v := .ref ms) (C := RX6) (T := TX6) (N := 11) hx hb hts hi6 hown hK hP 0 rfl rfl 0 (by decide) (hts (.fieldLink RX6 7 "SelfCheckingCircuitModel" "s" "[I") (by decide +kernel)) (fun _ h9 => h9) rfl dX6_isNode_4 ?_
  refine hk_csi (va_runS (As := [.ref ms]) (rest := [.long 0, .long v.toInt64]) ⟨hx, hb, hml, hown, hts⟩ (c6_nodesOf l D g ti ms fs ) (va_cwS 1 hts gX6_isNode_X6_nodesOf rfl rfl rfl (by decide +kernel) ⟨Nat.le_of_ble_eq_true rfl, Nat.le_of_ble_eq_true rfl⟩) (hk_roS hE hP hS [1] rfl) rfl rfl hl.1 rfl (lv_room (Nat.le_of_ble_eq_true rfl)) dX6_isNode_7 ⟨Nat.zero_le _, Nat.zero_le _⟩) (fun r_1 hr_2 => ?_)
  subst hr_2
  refine hk_ti (nI N) (by rw [hM.1.1, hM.1.2.1, nI_add, Nat.add_sub_cancel' hC.2.2.1]) ?_
  refine lv_iconst (v := 1) hx hb dX6_isNode_10 (by decide) ?_
  refine lv_isub hx hb dX6_isNode_11 ?_
  refine lv_i2l hx hb dX6_isNode_12 rfl ?_
  refine hk_csi (va_runS (As := [.long v.toInt64, .long 0, .long ((nI N - (1 : Int32)).toInt64)]) (rest := []) ⟨hx, hb, hml, hown, hts⟩ (c6_in l D g ti v.toInt64 0 ((nI N - (1 : Int32)).toInt64) ) (va_cwS 3 hts gX6_isNode_X6_in rfl rfl rfl (by decide +kernel) ⟨Nat.le_of_ble_eq_true rfl, Nat.le_of_ble_eq_true rfl⟩) (hk_roS hE hP hS [] rfl) rfl rfl hl.1 rfl (lv_room (Nat.le_of_ble_eq_true rfl)) dX6_isNode_13 ⟨Nat.zero_le _, Nat.zero_le _⟩) (fun r_3 hr_4 => ?_)
  subst hr_4
  refine hk_ti (bI (hn N v)) (by rw [inL_hn (hi_N (by have := hC.2.2.2.1; have := hC.2.1; omega)) (by have := hC.2.2.2.1; have := hC.2.1; omega)]) ?_
  exact W.zret (v := bI (hn N v)) hx hb hr (hk_zb _) (fun tt ht hW => ⟨_, rfl, rfl, ht⟩) (fun _ h => by cases h) dX6_isNode_16
set_option maxHeartbeats 4000000 in
set_option maxRecDepth 100000 in
theorem c6_many (l : Launch) (D : va_G) (g : hk_G) (ti : Nat) (mo : Nat) (ms : Nat) (mr : Nat) (mk : Nat) (mt : Nat) (mv : Nat) (me : Nat) (fs : Nat → Int32) (km : Nat) (ln : Nat) (sp : Nat) (rs : Nat) (ws : Nat) (n : Nat) (N : Nat) (o : Nat) (cd : Nat) (wt : Nat) (ty : Nat → Nat) (pa : Nat → Nat) (pb : Nat → Nat) (vo : Nat → Nat) (nm : Int64) (hC : Cok n N o cd wt) (hM : MR n N o cd wt ty pa pb vo nm fs) : Met l yX6_many wsX6_many ({ frames := 0, cells := 0, slots := 0, locals := 0 }) (va_Pc [.ref mo] (hk_Ro D g ti [(mo, .inr (6, [.ref ms, .ref mr, .ref mk, .int (nI km), .ref mt, .int (nI ln), .int (nI sp), .int (nI rs), .int (nI ws), .ref mv, .ref me])), (ms, .inl (g.2.1, 147, .inl fs))])) (vp_Si (fun r => r = nI (2 ^ n))) 0 0 (fun _ => False) := by
  refine Met.ofW (cc := cX6_many) (maxL := 1) (ret := (some .int)) (by decide) rfl ?_
  intro p e s m args below meth c s₁ Bd hml hv
  obtain ⟨rfl, hP, hE⟩ := hv
  have hx := Bd.exec
  have hb := Bd.bytes
  have hr := Bd.returns
  have hts := atoms_spec (ws := wsX6_many) Bd.pre
  have hown : s.vm.findClass RX6 = some m.cls := findClass_of_methodNamed Bd.named
  have hlocks := Bd.notSynchronized
  have hK := hE.1
  have hi6 : ∀ w ∈ wsX60, w ∈ wsX6_many := fun w h => List.mem_cons_of_mem _ (List.mem_append_right _ h)
  have hS : va_S (fun _ => False) s.heap s.heap [] := va_S.rf
  have hl := lv_entry ([.ref mo]) (n := 1) (Nat.le_of_ble_eq_true rfl)
  rw [lg_entry_eq]
  generalize (lg_sl ([.ref mo]) ++ List.replicate (1 - (lg_sl ([.ref mo])).length) Slot.unset).toArray = ls at hl ⊢
  have hl : lv_has ls 1 [(0, .ref mo)] := hl
  refine lv_iconst (v := 1) hx hb dX6_many_0 (by decide) ?_
  refine lv_aload_n hx hb dX6_many_1 rfl (lv_at hl 0 rfl) ?_
  refine va_get (D := D) (ci := 6) (v := .ref ms) (C := RX6) (T := TX6) (N := 11) hx hb hts hi6 hown hK hP 0 rfl rfl 0 (by decide) (hts (.fieldLink RX6 7 "SelfCheckingCircuitModel" "s" "[I") (by decide +kernel)) (fun _ h9 => h9) rfl dX6_many_2 ?_
  refine lv_iconst (v := 0) hx hb dX6_many_5 (by decide) ?_
  refine va_iald hx hb hK hP 1 1 rfl rfl (by unfold vp_in; decide) dX6_many_6 ?_
  refine hk_ti (fs 0) (congrArg fs (by decide)) ?_
  refine hk_ti (nI n) (hM.1.1) ?_
  refine lv_ishl hx hb dX6_many_7 ?_
  exact W.iret (v := ((1 : Int32) <<< (nI n &&& 31))) hx hb hr (fun tt ht hW => ⟨_, rfl, hn_pw n (by have := hC.2.1; omega), ht⟩) (fun _ h => by cases h) dX6_many_8
set_option maxHeartbeats 4000000 in
set_option maxRecDepth 100000 in
theorem c6_isWord (l : Launch) (D : va_G) (g : hk_G) (ti : Nat) (mo : Nat) (ms : Nat) (mr : Nat) (mk : Nat) (mt : Nat) (mv : Nat) (me : Nat) (fs : Nat → Int32) (km : Nat) (ln : Nat) (sp : Nat) (rs : Nat) (ws : Nat) (n : Nat) (N : Nat) (o : Nat) (cd : Nat) (wt : Nat) (ty : Nat → Nat) (pa : Nat → Nat) (pb : Nat → Nat) (vo : Nat → Nat) (nm : Int64) (v : Int32) (hC : Cok n N o cd wt) (hM : MR n N o cd wt ty pa pb vo nm fs) : Met l yX6_isWord wsX6_isWord ({ frames := 1, cells := 0, slots := 0, locals := 25 }) (va_Pc [.ref mo, .int v] (hk_Ro D g ti [(mo, .inr (6, [.ref ms, .ref mr, .ref mk, .int (nI km), .ref mt, .int (nI ln), .int (nI sp), .int (nI rs), .int (nI ws), .ref mv, .ref me])), (ms, .inl (g.2.1, 147, .inl fs))])) (vp_Si (fun r => r = bI (hn (2 ^ n) v))) 0 0 (fun _ => False) := by
  refine Met.ofW (cc := cX6_isWord) (maxL := 2) (ret := (some .boolean)) (by decide) rfl ?_
  intro p e s m args below meth c s₁ Bd hml hv
  obtain ⟨rfl, hP, hE⟩ := hv
  have hx := Bd.exec
  have hb := Bd.bytes
  have hr := Bd.returns
  have hts := atoms_spec (ws := wsX6_isWord) Bd.pre
  have hown : s.vm.findClass RX6 = some m.cls := findClass_of_methodNamed Bd.named
  have hlocks := Bd.notSynchronized
  have hK := hE.1
  have hS : va_S (fun _ => False) s.heap s.heap [] := va_S.rf
  have hl := lv_entry ([.ref mo, .int v]) (n := 2) (Nat.le_of_ble_eq_true rfl)
  rw [lg_entry_eq]
  generalize (lg_sl ([.ref mo, .int v]) ++ List.replicate (2 - (lg_sl ([.ref mo, .int v])).length) Slot.unset).toArray = ls at hl ⊢
  have hl : lv_has ls 2 [(0, .ref mo), (1, .int v)] := hl
  refine lv_iload_n hx hb dX6_isWord_0 rfl (lv_at hl 1 rfl) ?_
  refine lv_i2l hx hb dX6_isWord_1 rfl ?_
  refine lv_lconst (v := 0) hx hb dX6_isWord_2 (by decide) ?_
  refine lv_aload_n hx hb dX6_isWord_3 rfl (lv_at hl 0 rfl) ?_
  refine hk_csi (va_runV (As := []) (rest := [.long 0, .long v.toInt64]) ⟨hx, hb, hml, hown, hts⟩ (c6_many l D g ti mo ms mr mk mt mv me fs km ln sp rs ws n N o cd wt ty pa pb vo nm hC hM) (cwV 0 hts gX6_isWord_X6_many rfl rfl rfl (by decide +kernel) ⟨Nat.le_of_ble_eq_true rfl, Nat.le_of_ble_eq_true rfl⟩) (hk_roV hE hP hS 6 rfl rfl [0, 1] rfl rfl) rfl rfl hl.1 rfl (lv_room (Nat.le_of_ble_eq_true rfl)) dX6_isWord_4 ⟨Nat.zero_le _, Nat.zero_le _⟩) (fun r_1 hr_2 => ?_)
  subst hr_2
  refine lv_iconst (v := 1) hx hb dX6_isWord_7 (by decide) ?_
  refine lv_isub hx hb dX6_isWord_8 ?_
  refine lv_i2l hx hb dX6_isWord_9 rfl ?_
  refine hk_csi (va_runS (As := [.long v.toInt64, .long 0, .long (((nI (2 ^ n)) - (1 : Int32)).toInt64)]) (rest := []) ⟨hx, hb, hml, hown, hts⟩ (c6_in l D g ti v.toInt64 0 (((nI (2 ^ n)) - (1 : Int32)).toInt64) ) (va_cwS 3 hts gX6_isWord_X6_in rfl rfl rfl (by decide +kernel) ⟨Nat.le_of_ble_eq_true rfl, Nat.le_of_ble_eq_true rfl⟩) (hk_roS hE hP hS [] rfl) rfl rfl hl.1 rfl (lv_room (Nat.le_of_ble_eq_true rfl)) dX6_isWord_10 ⟨Nat.zero_le _, Nat.zero_le _⟩) (fun r_3 hr_4 => ?_)
  subst hr_4
  refine hk_ti (bI (hn (2 ^ n) v)) (by rw [inL_hn (hi_N (by have := hC.2.1; exact Nat.lt_of_le_of_lt (Nat.pow_le_pow_right (by decide) this) (by decide : 2 ^ 6 < 2 ^ 30))) (by have := hC.2.1; exact Nat.lt_of_le_of_lt (Nat.pow_le_pow_right (by decide) this) (by decide : 2 ^ 6 < 2 ^ 31))]) ?_
  exact W.zret (v := bI (hn (2 ^ n) v)) hx hb hr (hk_zb _) (fun tt ht hW => ⟨_, rfl, rfl, ht⟩) (fun _ h => by cases h) dX6_isWord_13
set_option maxHeartbeats 4000000 in
set_option maxRecDepth 100000 in
theorem c6_isFault (l : Launch) (D : va_G) (g : hk_G) (ti : Nat) (mo : Nat) (ms : Nat) (mr : Nat) (mk : Nat) (mt : Nat) (mv : Nat) (me : Nat) (fs : Nat → Int32) (km : Nat) (ln : Nat) (sp : Nat) (rs : Nat) (ws : Nat) (n : Nat) (N : Nat) (o : Nat) (cd : Nat) (wt : Nat) (ty : Nat → Nat) (pa : Nat → Nat) (pb : Nat → Nat) (vo : Nat → Nat) (nm : Int64) (v : Int32) (hC : Cok n N o cd wt) (hM : MR n N o cd wt ty pa pb vo nm fs) : Met l yX6_isFault wsX6_isFault ({ frames := 1, cells := 0, slots := 0, locals := 25 }) (va_Pc [.ref mo, .int v] (hk_Ro D g ti [(mo, .inr (6, [.ref ms, .ref mr, .ref mk, .int (nI km), .ref mt, .int (nI ln), .int (nI sp), .int (nI rs), .int (nI ws), .ref mv, .ref me])), (ms, .inl (g.2.1, 147, .inl fs))])) (vp_Si (fun r => r = bI (hn (2 * N) v))) 0 0 (fun _ => False) := by
  refine Met.ofW (cc := cX6_isFault) (maxL := 2) (ret := (some .boolean)) (by decide) rfl ?_
  intro p e s m args below meth c s₁ Bd hml hv
  obtain ⟨rfl, hP, hE⟩ := hv
  have hx := Bd.exec
  have hb := Bd.bytes
  have hr := Bd.returns
  have hts := atoms_spec (ws := wsX6_isFault) Bd.pre
  have hown : s.vm.findClass RX6 = some m.cls := findClass_of_methodNamed Bd.named
  have hlocks := Bd.notSynchronized
  have hK := hE.1
  have hi6 : ∀ w ∈ wsX60, w ∈ wsX6_isFault := fun w h => List.mem_cons_of_mem _ (List.mem_append_right _ h)
  have hS : va_S (fun _ => False) s.heap s.heap [] := va_S.rf
  have hl := lv_entry ([.ref mo, .int v]) (n := 2) (Nat.le_of_ble_eq_true rfl)
  rw [lg_entry_eq]
  generalize (lg_sl ([.ref mo, .int v]) ++ List.replicate (2 - (lg_sl ([.ref mo, .int v])).length) Slot.unset).toArray = ls at hl ⊢
  have hl : lv_has ls 2 [(0, .ref mo), (1, .int v)] := hl
  refine lv_iload_n hx hb dX6_isFault_0 rfl (lv_at hl 1 rfl) ?_
  refine lv_i2l hx hb dX6_isFault_1 rfl ?_
  refine lv_lconst (v := 0) hx hb dX6_isFault_2 (by decide) ?_
  refine lv_iconst (v := 2) hx hb dX6_isFault_3 (by decide) ?_
  refine lv_aload_n hx hb dX6_isFault_4 rfl (lv_at hl 0 rfl) ?_
  refine va_get (D := D) (ci := 6) (v := .ref ms) (C := RX6) (T := TX6) (N := 11) hx hb hts hi6 hown hK hP 0 rfl rfl 0 (by decide) (hts (.fieldLink RX6 7 "SelfCheckingCircuitModel" "s" "[I") (by decide +kernel)) (fun _ h9 => h9) rfl dX6_isFault_5 ?_
  refine hk_csi (va_runS (As := [.ref ms]) (rest := [.int 2, .long 0, .long v.toInt64]) ⟨hx, hb, hml, hown, hts⟩ (c6_nodesOf l D g ti ms fs ) (va_cwS 1 hts gX6_isFault_X6_nodesOf rfl rfl rfl (by decide +kernel) ⟨Nat.le_of_ble_eq_true rfl, Nat.le_of_ble_eq_true rfl⟩) (hk_roS hE hP hS [1] rfl) rfl rfl hl.1 rfl (lv_room (Nat.le_of_ble_eq_true rfl)) dX6_isFault_8 ⟨Nat.zero_le _, Nat.zero_le _⟩) (fun r_1 hr_2 => ?_)
  subst hr_2
  refine hk_ti (nI N) (by rw [hM.1.1, hM.1.2.1, nI_add, Nat.add_sub_cancel' hC.2.2.1]) ?_
  refine lv_imul hx hb dX6_isFault_11 ?_
  refine hk_ti (nI (2 * N)) (pk_mul 2 N) ?_
  refine lv_iconst (v := 1) hx hb dX6_isFault_12 (by decide) ?_
  refine lv_isub hx hb dX6_isFault_13 ?_
  refine lv_i2l hx hb dX6_isFault_14 rfl ?_
  refine hk_csi (va_runS (As := [.long v.toInt64, .long 0, .long ((nI (2 * N) - (1 : Int32)).toInt64)]) (rest := []) ⟨hx, hb, hml, hown, hts⟩ (c6_in l D g ti v.toInt64 0 ((nI (2 * N) - (1 : Int32)).toInt64) ) (va_cwS 3 hts gX6_isFault_X6_in rfl rfl rfl (by decide +kernel) ⟨Nat.le_of_ble_eq_true rfl, Nat.le_of_ble_eq_true rfl⟩) (hk_roS hE hP hS [] rfl) rfl rfl hl.1 rfl (lv_room (Nat.le_of_ble_eq_true rfl)) dX6_isFault_15 ⟨Nat.zero_le _, Nat.zero_le _⟩) (fun r_3 hr_4 => ?_)
  subst hr_4
  refine hk_ti (bI (hn (2 * N) v)) (by rw [inL_hn (hi_N (by have := hC.2.2.2.1; have := hC.2.1; omega)) (by have := hC.2.2.2.1; have := hC.2.1; omega)]) ?_
  exact W.zret (v := bI (hn (2 * N) v)) hx hb hr (hk_zb _) (fun tt ht hW => ⟨_, rfl, rfl, ht⟩) (fun _ h => by cases h) dX6_isFault_18
set_option maxHeartbeats 4000000 in
set_option maxRecDepth 100000 in
theorem c6_typeAt (l : Launch) (D : va_G) (g : hk_G) (ti : Nat) (mo : Nat) (ms : Nat) (mr : Nat) (mk : Nat) (mt : Nat) (mv : Nat) (me : Nat) (fs : Nat → Int32) (km : Nat) (ln : Nat) (sp : Nat) (rs : Nat) (ws : Nat) (n : Nat) (N : Nat) (o : Nat) (cd : Nat) (wt : Nat) (ty : Nat → Nat) (pa : Nat → Nat) (pb : Nat → Nat) (vo : Nat → Nat) (nm : Int64) (j : Nat) (hC : Cok n N o cd wt) (hM : MR n N o cd wt ty pa pb vo nm fs) (hj : j < N) : Met l yX6_typeAt wsX6_typeAt ({ frames := 0, cells := 0, slots := 0, locals := 0 }) (va_Pc [.ref mo, .int (nI j)] (hk_Ro D g ti [(mo, .inr (6, [.ref ms, .ref mr, .ref mk, .int (nI km), .ref mt, .int (nI ln), .int (nI sp), .int (nI rs), .int (nI ws), .ref mv, .ref me])), (ms, .inl (g.2.1, 147, .inl fs))])) (vp_Si (fun r => r = if j < n then 6 else nI (ty j))) 0 0 (fun _ => False) := by
  refine Met.ofW (cc := cX6_typeAt) (maxL := 2) (ret := (some .int)) (by decide) rfl ?_
  intro p e s m args below meth c s₁ Bd hml hv
  obtain ⟨rfl, hP, hE⟩ := hv
  have hx := Bd.exec
  have hb := Bd.bytes
  have hr := Bd.returns
  have hts := atoms_spec (ws := wsX6_typeAt) Bd.pre
  have hown : s.vm.findClass RX6 = some m.cls := findClass_of_methodNamed Bd.named
  have hlocks := Bd.notSynchronized
  have hK := hE.1
  have hi6 : ∀ w ∈ wsX60, w ∈ wsX6_typeAt := fun w h => List.mem_cons_of_mem _ (List.mem_append_right _ h)
  have hS : va_S (fun _ => False) s.heap s.heap [] := va_S.rf
  have hl := lv_entry ([.ref mo, .int (nI j)]) (n := 2) (Nat.le_of_ble_eq_true rfl)
  rw [lg_entry_eq]
  generalize (lg_sl ([.ref mo, .int (nI j)]) ++ List.replicate (2 - (lg_sl ([.ref mo, .int (nI j)])).length) Slot.unset).toArray = ls at hl ⊢
  have hl : lv_has ls 2 [(0, .ref mo), (1, .int (nI j))] := hl
  refine lv_iload_n hx hb dX6_typeAt_0 rfl (lv_at hl 1 rfl) ?_
  refine lv_aload_n hx hb dX6_typeAt_1 rfl (lv_at hl 0 rfl) ?_
  refine va_get (D := D) (ci := 6) (v := .ref ms) (C := RX6) (T := TX6) (N := 11) hx hb hts hi6 hown hK hP 0 rfl rfl 0 (by decide) (hts (.fieldLink RX6 7 "SelfCheckingCircuitModel" "s" "[I") (by decide +kernel)) (fun _ h9 => h9) rfl dX6_typeAt_2 ?_
  refine lv_iconst (v := 0) hx hb dX6_typeAt_5 (by decide) ?_
  refine va_iald hx hb hK hP 1 1 rfl rfl (by unfold vp_in; decide) dX6_typeAt_6 ?_
  refine hk_ti (fs 0) (congrArg fs (by decide)) ?_
  refine hk_ti (nI n) (hM.1.1) ?_
  refine lv_icmp_ge (tgt := 15) hx hb dX6_typeAt_7 (by decide) (fun c_1 => ?_) (fun c_1 => ?_)
  · have c_1h : nI n ≤ nI j := c_1
    refine lv_aload_n hx hb dX6_typeAt_15 rfl (lv_at hl 0 rfl) ?_
    refine va_get (D := D) (ci := 6) (v := .ref ms) (C := RX6) (T := TX6) (N := 11) hx hb hts hi6 hown hK hP 0 rfl rfl 0 (by decide) (hts (.fieldLink RX6 7 "SelfCheckingCircuitModel" "s" "[I") (by decide +kernel)) (fun _ h9 => h9) rfl dX6_typeAt_16 ?_
    refine lv_iconst (v := 2) hx hb dX6_typeAt_19 (by decide) ?_
    refine lv_iconst (v := 3) hx hb dX6_typeAt_20 (by decide) ?_
    refine lv_iload_n hx hb dX6_typeAt_21 rfl (lv_at hl 1 rfl) ?_
    refine lv_aload_n hx hb dX6_typeAt_22 rfl (lv_at hl 0 rfl) ?_
    refine va_get (D := D) (ci := 6) (v := .ref ms) (C := RX6) (T := TX6) (N := 11) hx hb hts hi6 hown hK hP 0 rfl rfl 0 (by decide) (hts (.fieldLink RX6 7 "SelfCheckingCircuitModel" "s" "[I") (by decide +kernel)) (fun _ h9 => h9) rfl dX6_typeAt_23 ?_
    refine lv_iconst (v := 0) hx hb dX6_typeAt_26 (by decide) ?_
    refine va_iald hx hb hK hP 1 1 rfl rfl (by unfold vp_in; decide) dX6_typeAt_27 ?_
    refine hk_ti (fs 0) (congrArg fs (by decide)) ?_
    refine hk_ti (nI n) (hM.1.1) ?_
    refine lv_isub hx hb dX6_typeAt_28 ?_
    refine lv_imul hx hb dX6_typeAt_29 ?_
    refine lv_iadd hx hb dX6_typeAt_30 ?_
    refine hk_ti (nI (2 + 3 * (j - n))) (mix (a := 0) (pk_sub (hk_ge n c_1 (hi := by have := hC.2.2.2.1; have := hC.2.1; omega) (hn := by have := hC.2.2.2.1; have := hC.2.1; omega)))) ?_
    refine va_iald hx hb hK hP 1 1 rfl rfl (vp_in_nI (N := 147) (by have := hC.2.2.2.1; have := hC.2.1; omega) (by decide)) dX6_typeAt_31 ?_
    refine hk_ti (fs (2 + 3 * (j - n))) (congrArg fs (nI_clamp (by have := hC.2.2.2.1; have := hC.2.1; omega))) ?_
    exact W.iret (v := (fs (2 + 3 * (j - n)))) hx hb hr (fun tt ht hW => ⟨_, rfl, by rw [if_neg (Nat.not_lt.mpr (hk_ge n c_1 (hi := by have := hC.2.2.2.1; have := hC.2.1; omega) (hn := by have := hC.2.2.2.1; have := hC.2.1; omega)))]; exact (hM.2.1 j (hk_ge n c_1 (hi := by have := hC.2.2.2.1; have := hC.2.1; omega) (hn := by have := hC.2.2.2.1; have := hC.2.1; omega)) hj).1, ht⟩) (fun _ h => by cases h) dX6_typeAt_32
  · have c_1h : ¬ nI n ≤ nI j := c_1
    refine lv_bipush (v := 6) hx hb dX6_typeAt_10 (by decide) ?_
    refine lv_goto (tgt := 32) hx hb dX6_typeAt_12 (by decide) ?_
    exact W.iret (v := 6) hx hb hr (fun tt ht hW => ⟨_, rfl, by rw [if_pos (hk_nge n c_1 (hi := by have := hC.2.2.2.1; have := hC.2.1; omega) (hn := by have := hC.2.2.2.1; have := hC.2.1; omega))], ht⟩) (fun _ h => by cases h) dX6_typeAt_32
set_option maxHeartbeats 4000000 in
set_option maxRecDepth 100000 in
theorem c6_operand_0 (l : Launch) (D : va_G) (g : hk_G) (ti : Nat) (mo : Nat) (ms : Nat) (mr : Nat) (mk : Nat) (mt : Nat) (mv : Nat) (me : Nat) (fs : Nat → Int32) (km : Nat) (ln : Nat) (sp : Nat) (rs : Nat) (ws : Nat) (n : Nat) (N : Nat) (o : Nat) (cd : Nat) (wt : Nat) (ty : Nat → Nat) (pa : Nat → Nat) (pb : Nat → Nat) (vo : Nat → Nat) (nm : Int64) (j : Nat) (hC : Cok n N o cd wt) (hM : MR n N o cd wt ty pa pb vo nm fs) (hnj : n ≤ j) (hj : j < N) : Met l yX6_operand wsX6_operand ({ frames := 0, cells := 0, slots := 0, locals := 0 }) (va_Pc [.ref mo, .int (nI j), .int 0] (hk_Ro D g ti [(mo, .inr (6, [.ref ms, .ref mr, .ref mk, .int (nI km), .ref mt, .int (nI ln), .int (nI sp), .int (nI rs), .int (nI ws), .ref mv, .ref me])), (ms, .inl (g.2.1, 147, .inl fs))])) (vp_Si (fun r => r = fs (2 + 3 * (j - n) + 1))) 0 0 (fun _ => False) := by
  refine Met.ofW (cc := cX6_operand) (maxL := 3) (ret := (some .int)) (by decide) rfl ?_
  intro p e s m args below meth c s₁ Bd hml hv
  obtain ⟨rfl, hP, hE⟩ := hv
  have hx := Bd.exec
  have hb := Bd.bytes
  have hr := Bd.returns
  have hts := atoms_spec (ws := wsX6_operand) Bd.pre
  have hown : s.vm.findClass RX6 = some m.cls := findClass_of_methodNamed Bd.named
  have hlocks := Bd.notSynchronized
  have hK := hE.1
  have hi6 : ∀ w ∈ wsX60, w ∈ wsX6_operand := fun w h => List.mem_cons_of_mem _ (List.mem_append_right _ h)
  have hS : va_S (fun _ => False) s.heap s.heap [] := va_S.rf
  have hl := lv_entry ([.ref mo, .int (nI j), .int 0]) (n := 3) (Nat.le_of_ble_eq_true rfl)
  rw [lg_entry_eq]
  generalize (lg_sl ([.ref mo, .int (nI j), .int 0]) ++ List.replicate (3 - (lg_sl ([.ref mo, .int (nI j), .int 0])).length) Slot.unset).toArray = ls at hl ⊢
  have hl : lv_has ls 3 [(0, .ref mo), (1, .int (nI j)), (2, .int 0)] := hl
  refine lv_aload_n hx hb dX6_operand_0 rfl (lv_at hl 0 rfl) ?_
  refine va_get (D := D) (ci := 6) (v := .ref ms) (C := RX6) (T := TX6) (N := 11) hx hb hts hi6 hown hK hP 0 rfl rfl 0 (by decide) (hts (.fieldLink RX6 7 "SelfCheckingCircuitModel" "s" "[I") (by decide +kernel)) (fun _ h9 => h9) rfl dX6_operand_1 ?_
  refine lv_iconst (v := 2) hx hb dX6_operand_4 (by decide) ?_
  refine lv_iconst (v := 3) hx hb dX6_operand_5 (by decide) ?_
  refine lv_iload_n hx hb dX6_operand_6 rfl (lv_at hl 1 rfl) ?_
  refine lv_aload_n hx hb dX6_operand_7 rfl (lv_at hl 0 rfl) ?_
  refine va_get (D := D) (ci := 6) (v := .ref ms) (C := RX6) (T := TX6) (N := 11) hx hb hts hi6 hown hK hP 0 rfl rfl 0 (by decide) (hts (.fieldLink RX6 7 "SelfCheckingCircuitModel" "s" "[I") (by decide +kernel)) (fun _ h9 => h9) rfl dX6_operand_8 ?_
  refine lv_iconst (v := 0) hx hb dX6_operand_11 (by decide) ?_
  refine va_iald hx hb hK hP 1 1 rfl rfl (by unfold vp_in; decide) dX6_operand_12 ?_
  refine hk_ti (fs 0) (congrArg fs (by decide)) ?_
  refine hk_ti (nI n) (hM.1.1) ?_
  refine lv_isub hx hb dX6_operand_13 ?_
  refine lv_imul hx hb dX6_operand_14 ?_
  refine lv_iadd hx hb dX6_operand_15 ?_
  refine lv_iconst (v := 1) hx hb dX6_operand_16 (by decide) ?_
  refine lv_iadd hx hb dX6_operand_17 ?_
  refine lv_iload_n hx hb dX6_operand_18 rfl (lv_at hl 2 rfl) ?_
  refine lv_iadd hx hb dX6_operand_19 ?_
  refine hk_ti (nI (2 + 3 * (j - n) + 1)) (by rw [mix (a := 0) (pk_sub hnj), show (1 : Int32) = nI 1 from rfl, nI_add, show (0 : Int32) = nI 0 from rfl, nI_add]) ?_
  refine va_iald hx hb hK hP 1 1 rfl rfl (vp_in_nI (N := 147) (by have := hC.2.2.2.1; have := hC.2.1; omega) (by decide)) dX6_operand_20 ?_
  refine hk_ti (fs (2 + 3 * (j - n) + 1)) (congrArg fs (nI_clamp (by have := hC.2.2.2.1; have := hC.2.1; omega))) ?_
  exact W.iret (v := (fs (2 + 3 * (j - n) + 1))) hx hb hr (fun tt ht hW => ⟨_, rfl, rfl, ht⟩) (fun _ h => by cases h) dX6_operand_21
set_option maxHeartbeats 4000000 in
set_option maxRecDepth 100000 in
theorem c6_operand_1 (l : Launch) (D : va_G) (g : hk_G) (ti : Nat) (mo : Nat) (ms : Nat) (mr : Nat) (mk : Nat) (mt : Nat) (mv : Nat) (me : Nat) (fs : Nat → Int32) (km : Nat) (ln : Nat) (sp : Nat) (rs : Nat) (ws : Nat) (n : Nat) (N : Nat) (o : Nat) (cd : Nat) (wt : Nat) (ty : Nat → Nat) (pa : Nat → Nat) (pb : Nat → Nat) (vo : Nat → Nat) (nm : Int64) (j : Nat) (hC : Cok n N o cd wt) (hM : MR n N o cd wt ty pa pb vo nm fs) (hnj : n ≤ j) (hj : j < N) : Met l yX6_operand wsX6_operand ({ frames := 0, cells := 0, slots := 0, locals := 0 }) (va_Pc [.ref mo, .int (nI j), .int 1] (hk_Ro D g ti [(mo, .inr (6, [.ref ms, .ref mr, .ref mk, .int (nI km), .ref mt, .int (nI ln), .int (nI sp), .int (nI rs), .int (nI ws), .ref mv, .ref me])), (ms, .inl (g.2.1, 147, .inl fs))])) (vp_Si (fun r => r = fs (2 + 3 * (j - n) + 2))) 0 0 (fun _ => False) := by
  refine Met.ofW (cc := cX6_operand) (maxL := 3) (ret := (some .int)) (by decide) rfl ?_
  intro p e s m args below meth c s₁ Bd hml hv
  obtain ⟨rfl, hP, hE⟩ := hv
  have hx := Bd.exec
  have hb := Bd.bytes
  have hr := Bd.returns
  have hts := atoms_spec (ws := wsX6_operand) Bd.pre
  have hown : s.vm.findClass RX6 = some m.cls := findClass_of_methodNamed Bd.named
  have hlocks := Bd.notSynchronized
  have hK := hE.1
  have hi6 : ∀ w ∈ wsX60, w ∈ wsX6_operand := fun w h => List.mem_cons_of_mem _ (List.mem_append_right _ h)
  have hS : va_S (fun _ => False) s.heap s.heap [] := va_S.rf
  have hl := lv_entry ([.ref mo, .int (nI j), .int 1]) (n := 3) (Nat.le_of_ble_eq_true rfl)
  rw [lg_entry_eq]
  generalize (lg_sl ([.ref mo, .int (nI j), .int 1]) ++ List.replicate (3 - (lg_sl ([.ref mo, .int (nI j), .int 1])).length) Slot.unset).toArray = ls at hl ⊢
  have hl : lv_has ls 3 [(0, .ref mo), (1, .int (nI j)), (2, .int 1)] := hl
  refine lv_aload_n hx hb dX6_operand_0 rfl (lv_at hl 0 rfl) ?_
  refine va_get (D := D) (ci := 6) (v := .ref ms) (C := RX6) (T := TX6) (N := 11) hx hb hts hi6 hown hK hP 0 rfl rfl 0 (by decide) (hts (.fieldLink RX6 7 "SelfCheckingCircuitModel" "s" "[I") (by decide +kernel)) (fun _ h9 => h9) rfl dX6_operand_1 ?_
  refine lv_iconst (v := 2) hx hb dX6_operand_4 (by decide) ?_
  refine lv_iconst (v := 3) hx hb dX6_operand_5 (by decide) ?_
  refine lv_iload_n hx hb dX6_operand_6 rfl (lv_at hl 1 rfl) ?_
  refine lv_aload_n hx hb dX6_operand_7 rfl (lv_at hl 0 rfl) ?_
  refine va_get (D := D) (ci := 6) (v := .ref ms) (C := RX6) (T := TX6) (N := 11) hx hb hts hi6 hown hK hP 0 rfl rfl 0 (by decide) (hts (.fieldLink RX6 7 "SelfCheckingCircuitModel" "s" "[I") (by decide +kernel)) (fun _ h9 => h9) rfl dX6_operand_8 ?_
  refine lv_iconst (v := 0) hx hb dX6_operand_11 (by decide) ?_
  refine va_iald hx hb hK hP 1 1 rfl rfl (by unfold vp_in; decide) dX6_operand_12 ?_
  refine hk_ti (fs 0) (congrArg fs (by decide)) ?_
  refine hk_ti (nI n) (hM.1.1) ?_
  refine lv_isub hx hb dX6_operand_13 ?_
  refine lv_imul hx hb dX6_operand_14 ?_
  refine lv_iadd hx hb dX6_operand_15 ?_
  refine lv_iconst (v := 1) hx hb dX6_operand_16 (by decide) ?_
  refine lv_iadd hx hb dX6_operand_17 ?_
  refine lv_iload_n hx hb dX6_operand_18 rfl (lv_at hl 2 rfl) ?_
  refine lv_iadd hx hb dX6_operand_19 ?_
  refine hk_ti (nI (2 + 3 * (j - n) + 2)) (by rw [mix (a := 0) (pk_sub hnj), show (1 : Int32) = nI 1 from rfl, nI_add, nI_add]) ?_
  refine va_iald hx hb hK hP 1 1 rfl rfl (vp_in_nI (N := 147) (by have := hC.2.2.2.1; have := hC.2.1; omega) (by decide)) dX6_operand_20 ?_
  refine hk_ti (fs (2 + 3 * (j - n) + 2)) (congrArg fs (nI_clamp (by have := hC.2.2.2.1; have := hC.2.1; omega))) ?_
  exact W.iret (v := (fs (2 + 3 * (j - n) + 2))) hx hb hr (fun tt ht hW => ⟨_, rfl, rfl, ht⟩) (fun _ h => by cases h) dX6_operand_21
set_option maxHeartbeats 4000000 in
set_option maxRecDepth 100000 in
theorem c6_typeOf (l : Launch) (D : va_G) (g : hk_G) (ti : Nat) (mo : Nat) (ms : Nat) (mr : Nat) (mk : Nat) (mt : Nat) (mv : Nat) (me : Nat) (fs : Nat → Int32) (km : Nat) (ln : Nat) (sp : Nat) (rs : Nat) (ws : Nat) (n : Nat) (N : Nat) (o : Nat) (cd : Nat) (wt : Nat) (ty : Nat → Nat) (pa : Nat → Nat) (pb : Nat → Nat) (vo : Nat → Nat) (nm : Int64) (j : Nat) (hC : Cok n N o cd wt) (hM : MR n N o cd wt ty pa pb vo nm fs) (hj : j < N) : Met l yX6_typeOf wsX6_typeOf ({ frames := 2, cells := 0, slots := 0, locals := 46 }) (va_Pc [.ref mo, .int (nI j)] (hk_Ro D g ti [(mo, .inr (6, [.ref ms, .ref mr, .ref mk, .int (nI km), .ref mt, .int (nI ln), .int (nI sp), .int (nI rs), .int (nI ws), .ref mv, .ref me])), (ms, .inl (g.2.1, 147, .inl fs))])) (vp_Si (fun r => r = if j < n then 6 else nI (ty j))) 0 0 (fun _ => False) := by
  refine Met.ofW (cc := cX6_typeOf) (maxL := 2) (ret := (some .int)) (by decide) rfl ?_
  intro p e s m args below meth c s₁ Bd hml hv
  obtain ⟨rfl, hP, hE⟩ := hv
  have hx := Bd.exec
  have hb := Bd.bytes
  have hr := Bd.returns
  have hts := atoms_spec (ws := wsX6_typeOf) Bd.pre
  have hown : s.vm.findClass RX6 = some m.cls := findClass_of_methodNamed Bd.named
  have hlocks := Bd.notSynchronized
  have hK := hE.1
  have hS : va_S (fun _ => False) s.heap s.heap [] := va_S.rf
  have hl := lv_entry ([.ref mo, .int (nI j)]) (n := 2) (Nat.le_of_ble_eq_true rfl)
  rw [lg_entry_eq]
  generalize (lg_sl ([.ref mo, .int (nI j)]) ++ List.replicate (2 - (lg_sl ([.ref mo, .int (nI j)])).length) Slot.unset).toArray = ls at hl ⊢
  have hl : lv_has ls 2 [(0, .ref mo), (1, .int (nI j))] := hl
  refine lv_aload_n hx hb dX6_typeOf_0 rfl (lv_at hl 0 rfl) ?_
  refine lv_iload_n hx hb dX6_typeOf_1 rfl (lv_at hl 1 rfl) ?_
  refine hk_csi (va_runV (As := [.int (nI j)]) (rest := []) ⟨hx, hb, hml, hown, hts⟩ (c6_isNode l D g ti mo ms mr mk mt mv me fs km ln sp rs ws n N o cd wt ty pa pb vo nm (nI j) hC hM) (cwV 1 hts gX6_typeOf_X6_isNode rfl rfl rfl (by decide +kernel) ⟨Nat.le_of_ble_eq_true rfl, Nat.le_of_ble_eq_true rfl⟩) (hk_roV hE hP hS 6 rfl rfl [0, 1] rfl rfl) rfl rfl hl.1 rfl (lv_room (Nat.le_of_ble_eq_true rfl)) dX6_typeOf_2 ⟨Nat.zero_le _, Nat.zero_le _⟩) (fun r_1 hr_2 => ?_)
  subst hr_2
  refine lv_if_eq (tgt := 16) hx hb dX6_typeOf_5 (by decide) (fun c_3 => ?_) (fun c_3 => ?_)
  · have c_3h : (bI (hn N (nI j))) = (0 : Int32) := c_3
    exact absurd (bI_0.mp c_3) (by rw [hn_t hj (by have := hC.2.2.2.1; have := hC.2.1; omega)]; decide)
  · have c_3h : ¬ (bI (hn N (nI j))) = (0 : Int32) := c_3
    refine lv_aload_n hx hb dX6_typeOf_8 rfl (lv_at hl 0 rfl) ?_
    refine lv_iload_n hx hb dX6_typeOf_9 rfl (lv_at hl 1 rfl) ?_
    refine hk_csi (va_runV (As := [.int (nI j)]) (rest := []) ⟨hx, hb, hml, hown, hts⟩ (c6_typeAt l D g ti mo ms mr mk mt mv me fs km ln sp rs ws n N o cd wt ty pa pb vo nm j hC hM hj) (cwV 1 hts gX6_typeOf_X6_typeAt rfl rfl rfl (by decide +kernel) ⟨Nat.le_of_ble_eq_true rfl, Nat.le_of_ble_eq_true rfl⟩) (hk_roV hE hP hS 6 rfl rfl [0, 1] rfl rfl) rfl rfl hl.1 rfl (lv_room (Nat.le_of_ble_eq_true rfl)) dX6_typeOf_10 ⟨Nat.zero_le _, Nat.zero_le _⟩) (fun r_4 hr_5 => ?_)
    subst hr_5
    refine lv_goto (tgt := 18) hx hb dX6_typeOf_13 (by decide) ?_
    exact W.iret (v := (if j < n then 6 else nI (ty j))) hx hb hr (fun tt ht hW => ⟨_, rfl, rfl, ht⟩) (fun _ h => by cases h) dX6_typeOf_18
set_option maxHeartbeats 4000000 in
set_option maxRecDepth 100000 in
theorem c6_typeOf_no (l : Launch) (D : va_G) (g : hk_G) (ti : Nat) (mo : Nat) (ms : Nat) (mr : Nat) (mk : Nat) (mt : Nat) (mv : Nat) (me : Nat) (fs : Nat → Int32) (km : Nat) (ln : Nat) (sp : Nat) (rs : Nat) (ws : Nat) (n : Nat) (N : Nat) (o : Nat) (cd : Nat) (wt : Nat) (ty : Nat → Nat) (pa : Nat → Nat) (pb : Nat → Nat) (vo : Nat → Nat) (nm : Int64) (v : Int32) (hC : Cok n N o cd wt) (hM : MR n N o cd wt ty pa pb vo nm fs) (hv : hn N v = false) : Met l yX6_typeOf wsX6_typeOf ({ frames := 2, cells := 0, slots := 0, locals := 46 }) (va_Pc [.ref mo, .int v] (hk_Ro D g ti [(mo, .inr (6, [.ref ms, .ref mr, .ref mk, .int (nI km), .ref mt, .int (nI ln), .int (nI sp), .int (nI rs), .int (nI ws), .ref mv, .ref me])), (ms, .inl (g.2.1, 147, .inl fs))])) (vp_Si (fun r => r = -101)) 0 0 (fun _ => False) := by
  refine Met.ofW (cc := cX6_typeOf) (maxL := 2) (ret := (some .int)) (by decide) rfl ?_
  intro p e s m args below meth c s₁ Bd hml hv
  obtain ⟨rfl, hP, hE⟩ := hv
  have hx := Bd.exec
  have hb := Bd.bytes
  have hr := Bd.returns
  have hts := atoms_spec (ws := wsX6_typeOf) Bd.pre
  have hown : s.vm.findClass RX6 = some m.cls := findClass_of_methodNamed Bd.named
  have hlocks := Bd.notSynchronized
  have hK := hE.1
  have hS : va_S (fun _ => False) s.heap s.heap [] := va_S.rf
  have hl := lv_entry ([.ref mo, .int v]) (n := 2) (Nat.le_of_ble_eq_true rfl)
  rw [lg_entry_eq]
  generalize (lg_sl ([.ref mo, .int v]) ++ List.replicate (2 - (lg_sl ([.ref mo, .int v])).length) Slot.unset).toArray = ls at hl ⊢
  have hl : lv_has ls 2 [(0, .ref mo), (1, .int v)] := hl
  refine lv_aload_n hx hb dX6_typeOf_0 rfl (lv_at hl 0 rfl) ?_
  refine lv_iload_n hx hb dX6_typeOf_1 rfl (lv_at hl 1 rfl) ?_
  refine hk_csi (va_runV (As := [.int v]) (rest := []) ⟨hx, hb, hml, hown, hts⟩ (c6_isNode l D g ti mo ms mr mk mt mv me fs km ln sp rs ws n N o cd wt ty pa pb vo nm v hC hM) (cwV 1 hts gX6_typeOf_X6_isNode rfl rfl rfl (by decide +kernel) ⟨Nat.le_of_ble_eq_true rfl, Nat.le_of_ble_eq_true rfl⟩) (hk_roV hE hP hS 6 rfl rfl [0, 1] rfl rfl) rfl rfl hl.1 rfl (lv_room (Nat.le_of_ble_eq_true rfl)) dX6_typeOf_2 ⟨Nat.zero_le _, Nat.zero_le _⟩) (fun r_1 hr_2 => ?_)
  subst hr_2
  refine lv_if_eq (tgt := 16) hx hb dX6_typeOf_5 (by decide) (fun c_3 => ?_) (fun c_3 => ?_)
  · have c_3h : (bI (hn N v)) = (0 : Int32) := c_3
    refine lv_bipush (v := (-101)) hx hb dX6_typeOf_16 (by decide) ?_
    exact W.iret (v := (-101)) hx hb hr (fun tt ht hW => ⟨_, rfl, rfl, ht⟩) (fun _ h => by cases h) dX6_typeOf_18
  · have c_3h : ¬ (bI (hn N v)) = (0 : Int32) := c_3
    exact absurd (bI_0.mpr hv) c_3
theorem inL_c {v : Int32} {c : Int64} (k : Nat) (hc : c.toInt = (k : Int) := by decide) (hk : k < 100 := by decide) : inL v.toInt64 0 c = hn (k + 1) v := inL_hn (by rw [hc]; omega) (by omega)
theorem ta_ge {n N j : Nat} {t : Int32} (_ : j < N) (h : ¬ (if j < n then (6 : Int32) else t) = 6) : n ≤ j := Nat.not_lt.mp fun q => h (if_pos q)
set_option maxHeartbeats 4000000 in
set_option maxRecDepth 100000 in
theorem c6_operandOf_0 (l : Launch) (D : va_G) (g : hk_G) (ti : Nat) (mo : Nat) (ms : Nat) (mr : Nat) (mk : Nat) (mt : Nat) (mv : Nat) (me : Nat) (fs : Nat → Int32) (km : Nat) (ln : Nat) (sp : Nat) (rs : Nat) (ws : Nat) (n : Nat) (N : Nat) (o : Nat) (cd : Nat) (wt : Nat) (ty : Nat → Nat) (pa : Nat → Nat) (pb : Nat → Nat) (vo : Nat → Nat) (nm : Int64) (j : Nat) (hC : Cok n N o cd wt) (hM : MR n N o cd wt ty pa pb vo nm fs) (hj : j < N) : Met l yX6_operandOf wsX6_operandOf ({ frames := 2, cells := 0, slots := 0, locals := 46 }) (va_Pc [.ref mo, .int (nI j), .int 0] (hk_Ro D g ti [(mo, .inr (6, [.ref ms, .ref mr, .ref mk, .int (nI km), .ref mt, .int (nI ln), .int (nI sp), .int (nI rs), .int (nI ws), .ref mv, .ref me])), (ms, .inl (g.2.1, 147, .inl fs))])) (vp_Si (fun r => r = if (if j < n then (6 : Int32) else nI (ty j)) = 6 then -104 else fs (2 + 3 * (j - n) + 1))) 0 0 (fun _ => False) := by
  refine Met.ofW (cc := cX6_operandOf) (maxL := 3) (ret := (some .int)) (by decide) rfl ?_
  intro p e s m args below meth c s₁ Bd hml hv
  obtain ⟨rfl, hP, hE⟩ := hv
  have hx := Bd.exec
  have hb := Bd.bytes
  have hr := Bd.returns
  have hts := atoms_spec (ws := wsX6_operandOf) Bd.pre
  have hown : s.vm.findClass RX6 = some m.cls := findClass_of_methodNamed Bd.named
  have hlocks := Bd.notSynchronized
  have hK := hE.1
  have hS : va_S (fun _ => False) s.heap s.heap [] := va_S.rf
  have hl := lv_entry ([.ref mo, .int (nI j), .int 0]) (n := 3) (Nat.le_of_ble_eq_true rfl)
  rw [lg_entry_eq]
  generalize (lg_sl ([.ref mo, .int (nI j), .int 0]) ++ List.replicate (3 - (lg_sl ([.ref mo, .int (nI j), .int 0])).length) Slot.unset).toArray = ls at hl ⊢
  have hl : lv_has ls 3 [(0, .ref mo), (1, .int (nI j)), (2, .int 0)] := hl
  refine lv_aload_n hx hb dX6_operandOf_0 rfl (lv_at hl 0 rfl) ?_
  refine lv_iload_n hx hb dX6_operandOf_1 rfl (lv_at hl 1 rfl) ?_
  refine hk_csi (va_runV (As := [.int (nI j)]) (rest := []) ⟨hx, hb, hml, hown, hts⟩ (c6_isNode l D g ti mo ms mr mk mt mv me fs km ln sp rs ws n N o cd wt ty pa pb vo nm (nI j) hC hM) (cwV 1 hts gX6_operandOf_X6_isNode rfl rfl rfl (by decide +kernel) ⟨Nat.le_of_ble_eq_true rfl, Nat.le_of_ble_eq_true rfl⟩) (hk_roV hE hP hS 6 rfl rfl [0, 1] rfl rfl) rfl rfl hl.1 rfl (lv_room (Nat.le_of_ble_eq_true rfl)) dX6_operandOf_2 ⟨Nat.zero_le _, Nat.zero_le _⟩) (fun r_1 hr_2 => ?_)
  subst hr_2
  refine lv_if_eq (tgt := 18) hx hb dX6_operandOf_5 (by decide) (fun c_3 => ?_) (fun c_3 => ?_)
  · have c_3h : (bI (hn N (nI j))) = (0 : Int32) := c_3
    exact absurd (bI_0.mp c_3) (by rw [hn_t hj (by have := hC.2.2.2.1; have := hC.2.1; omega)]; decide)
  · have c_3h : ¬ (bI (hn N (nI j))) = (0 : Int32) := c_3
    refine lv_iload_n hx hb dX6_operandOf_8 rfl (lv_at hl 2 rfl) ?_
    refine lv_i2l hx hb dX6_operandOf_9 rfl ?_
    refine lv_lconst (v := 0) hx hb dX6_operandOf_10 (by decide) ?_
    refine lv_lconst (v := 1) hx hb dX6_operandOf_11 (by decide) ?_
    refine hk_csi (va_runS (As := [.long ((0 : Int32).toInt64), .long 0, .long 1]) (rest := []) ⟨hx, hb, hml, hown, hts⟩ (c6_in l D g ti ((0 : Int32).toInt64) 0 1 ) (va_cwS 3 hts gX6_operandOf_X6_in rfl rfl rfl (by decide +kernel) ⟨Nat.le_of_ble_eq_true rfl, Nat.le_of_ble_eq_true rfl⟩) (hk_roS hE hP hS [] rfl) rfl rfl hl.1 rfl (lv_room (Nat.le_of_ble_eq_true rfl)) dX6_operandOf_12 ⟨Nat.zero_le _, Nat.zero_le _⟩) (fun r_4 hr_5 => ?_)
    subst hr_5
    refine hk_ti (bI (hn 2 0)) (by rw [inL_c 1]) ?_
    refine lv_if_ne (tgt := 21) hx hb dX6_operandOf_15 (by decide) (fun c_6 => ?_) (fun c_6 => ?_)
    · have c_6h : ¬ bI (hn 2 0) = (0 : Int32) := c_6
      refine lv_aload_n hx hb dX6_operandOf_21 rfl (lv_at hl 0 rfl) ?_
      refine lv_iload_n hx hb dX6_operandOf_22 rfl (lv_at hl 1 rfl) ?_
      refine hk_csi (va_runV (As := [.int (nI j)]) (rest := []) ⟨hx, hb, hml, hown, hts⟩ (c6_typeAt l D g ti mo ms mr mk mt mv me fs km ln sp rs ws n N o cd wt ty pa pb vo nm j hC hM hj) (cwV 1 hts gX6_operandOf_X6_typeAt rfl rfl rfl (by decide +kernel) ⟨Nat.le_of_ble_eq_true rfl, Nat.le_of_ble_eq_true rfl⟩) (hk_roV hE hP hS 6 rfl rfl [0, 1] rfl rfl) rfl rfl hl.1 rfl (lv_room (Nat.le_of_ble_eq_true rfl)) dX6_operandOf_23 ⟨Nat.zero_le _, Nat.zero_le _⟩) (fun r_7 hr_8 => ?_)
      subst hr_8
      refine hk_ti (if j < n then (6 : Int32) else nI (ty j)) (rfl) ?_
      refine lv_bipush (v := 6) hx hb dX6_operandOf_26 (by decide) ?_
      refine lv_icmp_eq (tgt := 45) hx hb dX6_operandOf_28 (by decide) (fun c_9 => ?_) (fun c_9 => ?_)
      · have c_9h : (if j < n then (6 : Int32) else nI (ty j)) = (6 : Int32) := c_9
        refine lv_bipush (v := (-104)) hx hb dX6_operandOf_45 (by decide) ?_
        refine lv_goto (tgt := 56) hx hb dX6_operandOf_47 (by decide) ?_
        exact W.iret (v := (-104)) hx hb hr (fun tt ht hW => ⟨_, rfl, by rw [if_pos c_9], ht⟩) (fun _ h => by cases h) dX6_operandOf_56
      · have c_9h : ¬ (if j < n then (6 : Int32) else nI (ty j)) = (6 : Int32) := c_9
        refine lv_aload_n hx hb dX6_operandOf_31 rfl (lv_at hl 0 rfl) ?_
        refine lv_iload_n hx hb dX6_operandOf_32 rfl (lv_at hl 1 rfl) ?_
        refine hk_csi (va_runV (As := [.int (nI j)]) (rest := []) ⟨hx, hb, hml, hown, hts⟩ (c6_typeAt l D g ti mo ms mr mk mt mv me fs km ln sp rs ws n N o cd wt ty pa pb vo nm j hC hM hj) (cwV 1 hts gX6_operandOf_X6_typeAt rfl rfl rfl (by decide +kernel) ⟨Nat.le_of_ble_eq_true rfl, Nat.le_of_ble_eq_true rfl⟩) (hk_roV hE hP hS 6 rfl rfl [0, 1] rfl rfl) rfl rfl hl.1 rfl (lv_room (Nat.le_of_ble_eq_true rfl)) dX6_operandOf_33 ⟨Nat.zero_le _, Nat.zero_le _⟩) (fun r_10 hr_11 => ?_)
        subst hr_11
        refine hk_ti (if j < n then (6 : Int32) else nI (ty j)) (rfl) ?_
        refine lv_iconst (v := 5) hx hb dX6_operandOf_36 (by decide) ?_
        refine lv_icmp_ne (tgt := 50) hx hb dX6_operandOf_37 (by decide) (fun c_12 => ?_) (fun c_12 => ?_)
        · have c_12h : ¬ (if j < n then (6 : Int32) else nI (ty j)) = (5 : Int32) := c_12
          refine lv_aload_n hx hb dX6_operandOf_50 rfl (lv_at hl 0 rfl) ?_
          refine lv_iload_n hx hb dX6_operandOf_51 rfl (lv_at hl 1 rfl) ?_
          refine lv_iload_n hx hb dX6_operandOf_52 rfl (lv_at hl 2 rfl) ?_
          refine hk_csi (va_runV (As := [.int (nI j), .int 0]) (rest := []) ⟨hx, hb, hml, hown, hts⟩ (c6_operand_0 l D g ti mo ms mr mk mt mv me fs km ln sp rs ws n N o cd wt ty pa pb vo nm j hC hM (ta_ge hj c_9) hj) (cwV 2 hts gX6_operandOf_X6_operand rfl rfl rfl (by decide +kernel) ⟨Nat.le_of_ble_eq_true rfl, Nat.le_of_ble_eq_true rfl⟩) (hk_roV hE hP hS 6 rfl rfl [0, 1] rfl rfl) rfl rfl hl.1 rfl (lv_room (Nat.le_of_ble_eq_true rfl)) dX6_operandOf_53 ⟨Nat.zero_le _, Nat.zero_le _⟩) (fun r_13 hr_14 => ?_)
          subst hr_14
          exact W.iret (v := (fs (2 + 3 * (j - n) + 1))) hx hb hr (fun tt ht hW => ⟨_, rfl, by rw [if_neg c_9], ht⟩) (fun _ h => by cases h) dX6_operandOf_56
        · have c_12h : (if j < n then (6 : Int32) else nI (ty j)) = (5 : Int32) := c_12
          refine lv_iload_n hx hb dX6_operandOf_40 rfl (lv_at hl 2 rfl) ?_
          refine lv_iconst (v := 1) hx hb dX6_operandOf_41 (by decide) ?_
          refine lv_icmp_ne (tgt := 50) hx hb dX6_operandOf_42 (by decide) (fun c_15 => ?_) (fun c_15 => ?_)
          · have c_15h : ¬ (0 : Int32) = (1 : Int32) := c_15
            refine lv_aload_n hx hb dX6_operandOf_50 rfl (lv_at hl 0 rfl) ?_
            refine lv_iload_n hx hb dX6_operandOf_51 rfl (lv_at hl 1 rfl) ?_
            refine lv_iload_n hx hb dX6_operandOf_52 rfl (lv_at hl 2 rfl) ?_
            refine hk_csi (va_runV (As := [.int (nI j), .int 0]) (rest := []) ⟨hx, hb, hml, hown, hts⟩ (c6_operand_0 l D g ti mo ms mr mk mt mv me fs km ln sp rs ws n N o cd wt ty pa pb vo nm j hC hM (ta_ge hj c_9) hj) (cwV 2 hts gX6_operandOf_X6_operand rfl rfl rfl (by decide +kernel) ⟨Nat.le_of_ble_eq_true rfl, Nat.le_of_ble_eq_true rfl⟩) (hk_roV hE hP hS 6 rfl rfl [0, 1] rfl rfl) rfl rfl hl.1 rfl (lv_room (Nat.le_of_ble_eq_true rfl)) dX6_operandOf_53 ⟨Nat.zero_le _, Nat.zero_le _⟩) (fun r_16 hr_17 => ?_)
            subst hr_17
            exact W.iret (v := (fs (2 + 3 * (j - n) + 1))) hx hb hr (fun tt ht hW => ⟨_, rfl, by rw [if_neg c_9], ht⟩) (fun _ h => by cases h) dX6_operandOf_56
          · have c_15h : (0 : Int32) = (1 : Int32) := c_15
            exact absurd c_15 (by decide)
    · have c_6h : bI (hn 2 0) = (0 : Int32) := c_6
      exact absurd c_6 (by decide)
set_option maxHeartbeats 4000000 in
set_option maxRecDepth 100000 in
theorem c6_operandOf_1 (l : Launch) (D : va_G) (g : hk_G) (ti : Nat) (mo : Nat) (ms : Nat) (mr : Nat) (mk : Nat) (mt : Nat) (mv : Nat) (me : Nat) (fs : Nat → Int32) (km : Nat) (ln : Nat) (sp : Nat) (rs : Nat) (ws : Nat) (n : Nat) (N : Nat) (o : Nat) (cd : Nat) (wt : Nat) (ty : Nat → Nat) (pa : Nat → Nat) (pb : Nat → Nat) (vo : Nat → Nat) (nm : Int64) (j : Nat) (hC : Cok n N o cd wt) (hM : MR n N o cd wt ty pa pb vo nm fs) (hj : j < N) : Met l yX6_operandOf wsX6_operandOf ({ frames := 2, cells := 0, slots := 0, locals := 46 }) (va_Pc [.ref mo, .int (nI j), .int 1] (hk_Ro D g ti [(mo, .inr (6, [.ref ms, .ref mr, .ref mk, .int (nI km), .ref mt, .int (nI ln), .int (nI sp), .int (nI rs), .int (nI ws), .ref mv, .ref me])), (ms, .inl (g.2.1, 147, .inl fs))])) (vp_Si (fun r => r = if (if j < n then (6 : Int32) else nI (ty j)) = 6 then -104 else if (if j < n then (6 : Int32) else nI (ty j)) = 5 then -104 else fs (2 + 3 * (j - n) + 2))) 0 0 (fun _ => False) := by
  refine Met.ofW (cc := cX6_operandOf) (maxL := 3) (ret := (some .int)) (by decide) rfl ?_
  intro p e s m args below meth c s₁ Bd hml hv
  obtain ⟨rfl, hP, hE⟩ := hv
  have hx := Bd.exec
  have hb := Bd.bytes
  have hr := Bd.returns
  have hts := atoms_spec (ws := wsX6_operandOf) Bd.pre
  have hown : s.vm.findClass RX6 = some m.cls := findClass_of_methodNamed Bd.named
  have hlocks := Bd.notSynchronized
  have hK := hE.1
  have hS : va_S (fun _ => False) s.heap s.heap [] := va_S.rf
  have hl := lv_entry ([.ref mo, .int (nI j), .int 1]) (n := 3) (Nat.le_of_ble_eq_true rfl)
  rw [lg_entry_eq]
  generalize (lg_sl ([.ref mo, .int (nI j), .int 1]) ++ List.replicate (3 - (lg_sl ([.ref mo, .int (nI j), .int 1])).length) Slot.unset).toArray = ls at hl ⊢
  have hl : lv_has ls 3 [(0, .ref mo), (1, .int (nI j)), (2, .int 1)] := hl
  refine lv_aload_n hx hb dX6_operandOf_0 rfl (lv_at hl 0 rfl) ?_
  refine lv_iload_n hx hb dX6_operandOf_1 rfl (lv_at hl 1 rfl) ?_
  refine hk_csi (va_runV (As := [.int (nI j)]) (rest := []) ⟨hx, hb, hml, hown, hts⟩ (c6_isNode l D g ti mo ms mr mk mt mv me fs km ln sp rs ws n N o cd wt ty pa pb vo nm (nI j) hC hM) (cwV 1 hts gX6_operandOf_X6_isNode rfl rfl rfl (by decide +kernel) ⟨Nat.le_of_ble_eq_true rfl, Nat.le_of_ble_eq_true rfl⟩) (hk_roV hE hP hS 6 rfl rfl [0, 1] rfl rfl) rfl rfl hl.1 rfl (lv_room (Nat.le_of_ble_eq_true rfl)) dX6_operandOf_2 ⟨Nat.zero_le _, Nat.zero_le _⟩) (fun r_1 hr_2 => ?_)
  subst hr_2
  refine lv_if_eq (tgt := 18) hx hb dX6_operandOf_5 (by decide) (fun c_3 => ?_) (fun c_3 => ?_)
  · have c_3h : (bI (hn N (nI j))) = (0 : Int32) := c_3
    exact absurd (bI_0.mp c_3) (by rw [hn_t hj (by have := hC.2.2.2.1; have := hC.2.1; omega)]; decide)
  · have c_3h : ¬ (bI (hn N (nI j))) = (0 : Int32) := c_3
    refine lv_iload_n hx hb dX6_operandOf_8 rfl (lv_at hl 2 rfl) ?_
    refine lv_i2l hx hb dX6_operandOf_9 rfl ?_
    refine lv_lconst (v := 0) hx hb dX6_operandOf_10 (by decide) ?_
    refine lv_lconst (v := 1) hx hb dX6_operandOf_11 (by decide) ?_
    refine hk_csi (va_runS (As := [.long ((1 : Int32).toInt64), .long 0, .long 1]) (rest := []) ⟨hx, hb, hml, hown, hts⟩ (c6_in l D g ti ((1 : Int32).toInt64) 0 1 ) (va_cwS 3 hts gX6_operandOf_X6_in rfl rfl rfl (by decide +kernel) ⟨Nat.le_of_ble_eq_true rfl, Nat.le_of_ble_eq_true rfl⟩) (hk_roS hE hP hS [] rfl) rfl rfl hl.1 rfl (lv_room (Nat.le_of_ble_eq_true rfl)) dX6_operandOf_12 ⟨Nat.zero_le _, Nat.zero_le _⟩) (fun r_4 hr_5 => ?_)
    subst hr_5
    refine hk_ti (bI (hn 2 1)) (by rw [inL_c 1]) ?_
    refine lv_if_ne (tgt := 21) hx hb dX6_operandOf_15 (by decide) (fun c_6 => ?_) (fun c_6 => ?_)
    · have c_6h : ¬ bI (hn 2 1) = (0 : Int32) := c_6
      refine lv_aload_n hx hb dX6_operandOf_21 rfl (lv_at hl 0 rfl) ?_
      refine lv_iload_n hx hb dX6_operandOf_22 rfl (lv_at hl 1 rfl) ?_
      refine hk_csi (va_runV (As := [.int (nI j)]) (rest := []) ⟨hx, hb, hml, hown, hts⟩ (c6_typeAt l D g ti mo ms mr mk mt mv me fs km ln sp rs ws n N o cd wt ty pa pb vo nm j hC hM hj) (cwV 1 hts gX6_operandOf_X6_typeAt rfl rfl rfl (by decide +kernel) ⟨Nat.le_of_ble_eq_true rfl, Nat.le_of_ble_eq_true rfl⟩) (hk_roV hE hP hS 6 rfl rfl [0, 1] rfl rfl) rfl rfl hl.1 rfl (lv_room (Nat.le_of_ble_eq_true rfl)) dX6_operandOf_23 ⟨Nat.zero_le _, Nat.zero_le _⟩) (fun r_7 hr_8 => ?_)
      subst hr_8
      refine hk_ti (if j < n then (6 : Int32) else nI (ty j)) (rfl) ?_
      refine lv_bipush (v := 6) hx hb dX6_operandOf_26 (by decide) ?_
      refine lv_icmp_eq (tgt := 45) hx hb dX6_operandOf_28 (by decide) (fun c_9 => ?_) (fun c_9 => ?_)
      · have c_9h : (if j < n then (6 : Int32) else nI (ty j)) = (6 : Int32) := c_9
        refine lv_bipush (v := (-104)) hx hb dX6_operandOf_45 (by decide) ?_
        refine lv_goto (tgt := 56) hx hb dX6_operandOf_47 (by decide) ?_
        exact W.iret (v := (-104)) hx hb hr (fun tt ht hW => ⟨_, rfl, by rw [if_pos c_9], ht⟩) (fun _ h => by cases h) dX6_operandOf_56
      · have c_9h : ¬ (if j < n then (6 : Int32) else nI (ty j)) = (6 : Int32) := c_9
        refine lv_aload_n hx hb dX6_operandOf_31 rfl (lv_at hl 0 rfl) ?_
        refine lv_iload_n hx hb dX6_operandOf_32 rfl (lv_at hl 1 rfl) ?_
        refine hk_csi (va_runV (As := [.int (nI j)]) (rest := []) ⟨hx, hb, hml, hown, hts⟩ (c6_typeAt l D g ti mo ms mr mk mt mv me fs km ln sp rs ws n N o cd wt ty pa pb vo nm j hC hM hj) (cwV 1 hts gX6_operandOf_X6_typeAt rfl rfl rfl (by decide +kernel) ⟨Nat.le_of_ble_eq_true rfl, Nat.le_of_ble_eq_true rfl⟩) (hk_roV hE hP hS 6 rfl rfl [0, 1] rfl rfl) rfl rfl hl.1 rfl (lv_room (Nat.le_of_ble_eq_true rfl)) dX6_operandOf_33 ⟨Nat.zero_le _, Nat.zero_le _⟩) (fun r_10 hr_11 => ?_)
        subst hr_11
        refine hk_ti (if j < n then (6 : Int32) else nI (ty j)) (rfl) ?_
        refine lv_iconst (v := 5) hx hb dX6_operandOf_36 (by decide) ?_
        refine lv_icmp_ne (tgt := 50) hx hb dX6_operandOf_37 (by decide) (fun c_12 => ?_) (fun c_12 => ?_)
        · have c_12h : ¬ (if j < n then (6 : Int32) else nI (ty j)) = (5 : Int32) := c_12
          refine lv_aload_n hx hb dX6_operandOf_50 rfl (lv_at hl 0 rfl) ?_
          refine lv_iload_n hx hb dX6_operandOf_51 rfl (lv_at hl 1 rfl) ?_
          refine lv_iload_n hx hb dX6_operandOf_52 rfl (lv_at hl 2 rfl) ?_
          refine hk_csi (va_runV (As := [.int (nI j), .int 1]) (rest := []) ⟨hx, hb, hml, hown, hts⟩ (c6_operand_1 l D g ti mo ms mr mk mt mv me fs km ln sp rs ws n N o cd wt ty pa pb vo nm j hC hM (ta_ge hj c_9) hj) (cwV 2 hts gX6_operandOf_X6_operand rfl rfl rfl (by decide +kernel) ⟨Nat.le_of_ble_eq_true rfl, Nat.le_of_ble_eq_true rfl⟩) (hk_roV hE hP hS 6 rfl rfl [0, 1] rfl rfl) rfl rfl hl.1 rfl (lv_room (Nat.le_of_ble_eq_true rfl)) dX6_operandOf_53 ⟨Nat.zero_le _, Nat.zero_le _⟩) (fun r_13 hr_14 => ?_)
          subst hr_14
          exact W.iret (v := (fs (2 + 3 * (j - n) + 2))) hx hb hr (fun tt ht hW => ⟨_, rfl, by rw [if_neg c_9, if_neg c_12], ht⟩) (fun _ h => by cases h) dX6_operandOf_56
        · have c_12h : (if j < n then (6 : Int32) else nI (ty j)) = (5 : Int32) := c_12
          refine lv_iload_n hx hb dX6_operandOf_40 rfl (lv_at hl 2 rfl) ?_
          refine lv_iconst (v := 1) hx hb dX6_operandOf_41 (by decide) ?_
          refine lv_icmp_ne (tgt := 50) hx hb dX6_operandOf_42 (by decide) (fun c_15 => ?_) (fun c_15 => ?_)
          · have c_15h : ¬ (1 : Int32) = (1 : Int32) := c_15
            exact absurd c_15 (by decide)
          · have c_15h : (1 : Int32) = (1 : Int32) := c_15
            refine lv_bipush (v := (-104)) hx hb dX6_operandOf_45 (by decide) ?_
            refine lv_goto (tgt := 56) hx hb dX6_operandOf_47 (by decide) ?_
            exact W.iret (v := (-104)) hx hb hr (fun tt ht hW => ⟨_, rfl, by rw [if_neg c_9, if_pos c_12], ht⟩) (fun _ h => by cases h) dX6_operandOf_56
    · have c_6h : bI (hn 2 1) = (0 : Int32) := c_6
      exact absurd c_6 (by decide)
set_option maxHeartbeats 4000000 in
set_option maxRecDepth 100000 in
theorem c6_operandOf_no (l : Launch) (D : va_G) (g : hk_G) (ti : Nat) (mo : Nat) (ms : Nat) (mr : Nat) (mk : Nat) (mt : Nat) (mv : Nat) (me : Nat) (fs : Nat → Int32) (km : Nat) (ln : Nat) (sp : Nat) (rs : Nat) (ws : Nat) (n : Nat) (N : Nat) (o : Nat) (cd : Nat) (wt : Nat) (ty : Nat → Nat) (pa : Nat → Nat) (pb : Nat → Nat) (vo : Nat → Nat) (nm : Int64) (v : Int32) (i : Int32) (hC : Cok n N o cd wt) (hM : MR n N o cd wt ty pa pb vo nm fs) (hv : hn N v = false ∨ hn 2 i = false) : Met l yX6_operandOf wsX6_operandOf ({ frames := 2, cells := 0, slots := 0, locals := 46 }) (va_Pc [.ref mo, .int v, .int i] (hk_Ro D g ti [(mo, .inr (6, [.ref ms, .ref mr, .ref mk, .int (nI km), .ref mt, .int (nI ln), .int (nI sp), .int (nI rs), .int (nI ws), .ref mv, .ref me])), (ms, .inl (g.2.1, 147, .inl fs))])) (vp_Si (fun r => r = -101)) 0 0 (fun _ => False) := by
  refine Met.ofW (cc := cX6_operandOf) (maxL := 3) (ret := (some .int)) (by decide) rfl ?_
  intro p e s m args below meth c s₁ Bd hml hv
  obtain ⟨rfl, hP, hE⟩ := hv
  have hx := Bd.exec
  have hb := Bd.bytes
  have hr := Bd.returns
  have hts := atoms_spec (ws := wsX6_operandOf) Bd.pre
  have hown : s.vm.findClass RX6 = some m.cls := findClass_of_methodNamed Bd.named
  have hlocks := Bd.notSynchronized
  have hK := hE.1
  have hS : va_S (fun _ => False) s.heap s.heap [] := va_S.rf
  have hl := lv_entry ([.ref mo, .int v, .int i]) (n := 3) (Nat.le_of_ble_eq_true rfl)
  rw [lg_entry_eq]
  generalize (lg_sl ([.ref mo, .int v, .int i]) ++ List.replicate (3 - (lg_sl ([.ref mo, .int v, .int i])).length) Slot.unset).toArray = ls at hl ⊢
  have hl : lv_has ls 3 [(0, .ref mo), (1, .int v), (2, .int i)] := hl
  refine lv_aload_n hx hb dX6_operandOf_0 rfl (lv_at hl 0 rfl) ?_
  refine lv_iload_n hx hb dX6_operandOf_1 rfl (lv_at hl 1 rfl) ?_
  refine hk_csi (va_runV (As := [.int v]) (rest := []) ⟨hx, hb, hml, hown, hts⟩ (c6_isNode l D g ti mo ms mr mk mt mv me fs km ln sp rs ws n N o cd wt ty pa pb vo nm v hC hM) (cwV 1 hts gX6_operandOf_X6_isNode rfl rfl rfl (by decide +kernel) ⟨Nat.le_of_ble_eq_true rfl, Nat.le_of_ble_eq_true rfl⟩) (hk_roV hE hP hS 6 rfl rfl [0, 1] rfl rfl) rfl rfl hl.1 rfl (lv_room (Nat.le_of_ble_eq_true rfl)) dX6_operandOf_2 ⟨Nat.zero_le _, Nat.zero_le _⟩) (fun r_1 hr_2 => ?_)
  subst hr_2
  refine lv_if_eq (tgt := 18) hx hb dX6_operandOf_5 (by decide) (fun c_3 => ?_) (fun c_3 => ?_)
  · have c_3h : (bI (hn N v)) = (0 : Int32) := c_3
    refine lv_bipush (v := (-101)) hx hb dX6_operandOf_18 (by decide) ?_
    exact W.iret (v := (-101)) hx hb hr (fun tt ht hW => ⟨_, rfl, rfl, ht⟩) (fun _ h => by cases h) dX6_operandOf_20
  · have c_3h : ¬ (bI (hn N v)) = (0 : Int32) := c_3
    refine lv_iload_n hx hb dX6_operandOf_8 rfl (lv_at hl 2 rfl) ?_
    refine lv_i2l hx hb dX6_operandOf_9 rfl ?_
    refine lv_lconst (v := 0) hx hb dX6_operandOf_10 (by decide) ?_
    refine lv_lconst (v := 1) hx hb dX6_operandOf_11 (by decide) ?_
    refine hk_csi (va_runS (As := [.long i.toInt64, .long 0, .long 1]) (rest := []) ⟨hx, hb, hml, hown, hts⟩ (c6_in l D g ti i.toInt64 0 1 ) (va_cwS 3 hts gX6_operandOf_X6_in rfl rfl rfl (by decide +kernel) ⟨Nat.le_of_ble_eq_true rfl, Nat.le_of_ble_eq_true rfl⟩) (hk_roS hE hP hS [] rfl) rfl rfl hl.1 rfl (lv_room (Nat.le_of_ble_eq_true rfl)) dX6_operandOf_12 ⟨Nat.zero_le _, Nat.zero_le _⟩) (fun r_4 hr_5 => ?_)
    subst hr_5
    refine hk_ti (bI (hn 2 i)) (by rw [inL_c 1]) ?_
    refine lv_if_ne (tgt := 21) hx hb dX6_operandOf_15 (by decide) (fun c_6 => ?_) (fun c_6 => ?_)
    · have c_6h : ¬ bI (hn 2 i) = (0 : Int32) := c_6
      exact absurd (bI_0.mpr (hv.resolve_left (by rw [bI_n0 c_3]; decide))) c_6
    · have c_6h : bI (hn 2 i) = (0 : Int32) := c_6
      refine lv_bipush (v := (-101)) hx hb dX6_operandOf_18 (by decide) ?_
      exact W.iret (v := (-101)) hx hb hr (fun tt ht hW => ⟨_, rfl, rfl, ht⟩) (fun _ h => by cases h) dX6_operandOf_20
set_option maxHeartbeats 4000000 in
set_option maxRecDepth 100000 in
theorem c6_outputNode (l : Launch) (D : va_G) (g : hk_G) (ti : Nat) (mo : Nat) (ms : Nat) (mr : Nat) (mk : Nat) (mt : Nat) (mv : Nat) (me : Nat) (fs : Nat → Int32) (km : Nat) (ln : Nat) (sp : Nat) (rs : Nat) (ws : Nat) (n : Nat) (N : Nat) (o : Nat) (cd : Nat) (wt : Nat) (ty : Nat → Nat) (pa : Nat → Nat) (pb : Nat → Nat) (vo : Nat → Nat) (nm : Int64) (k : Nat) (hC : Cok n N o cd wt) (hM : MR n N o cd wt ty pa pb vo nm fs) (hk : k < o) : Met l yX6_outputNode wsX6_outputNode ({ frames := 1, cells := 0, slots := 0, locals := 25 }) (va_Pc [.ref mo, .int (nI k)] (hk_Ro D g ti [(mo, .inr (6, [.ref ms, .ref mr, .ref mk, .int (nI km), .ref mt, .int (nI ln), .int (nI sp), .int (nI rs), .int (nI ws), .ref mv, .ref me])), (ms, .inl (g.2.1, 147, .inl fs))])) (vp_Si (fun r => r = nI (vo k))) 0 0 (fun _ => False) := by
  refine Met.ofW (cc := cX6_outputNode) (maxL := 2) (ret := (some .int)) (by decide) rfl ?_
  intro p e s m args below meth c s₁ Bd hml hv
  obtain ⟨rfl, hP, hE⟩ := hv
  have hx := Bd.exec
  have hb := Bd.bytes
  have hr := Bd.returns
  have hts := atoms_spec (ws := wsX6_outputNode) Bd.pre
  have hown : s.vm.findClass RX6 = some m.cls := findClass_of_methodNamed Bd.named
  have hlocks := Bd.notSynchronized
  have hK := hE.1
  have hi6 : ∀ w ∈ wsX60, w ∈ wsX6_outputNode := fun w h => List.mem_cons_of_mem _ (List.mem_append_right _ h)
  have hS : va_S (fun _ => False) s.heap s.heap [] := va_S.rf
  have hl := lv_entry ([.ref mo, .int (nI k)]) (n := 2) (Nat.le_of_ble_eq_true rfl)
  rw [lg_entry_eq]
  generalize (lg_sl ([.ref mo, .int (nI k)]) ++ List.replicate (2 - (lg_sl ([.ref mo, .int (nI k)])).length) Slot.unset).toArray = ls at hl ⊢
  have hl : lv_has ls 2 [(0, .ref mo), (1, .int (nI k))] := hl
  refine lv_iload_n hx hb dX6_outputNode_0 rfl (lv_at hl 1 rfl) ?_
  refine lv_i2l hx hb dX6_outputNode_1 rfl ?_
  refine lv_lconst (v := 0) hx hb dX6_outputNode_2 (by decide) ?_
  refine lv_aload_n hx hb dX6_outputNode_3 rfl (lv_at hl 0 rfl) ?_
  refine va_get (D := D) (ci := 6) (v := .ref ms) (C := RX6) (T := TX6) (N := 11) hx hb hts hi6 hown hK hP 0 rfl rfl 0 (by decide) (hts (.fieldLink RX6 7 "SelfCheckingCircuitModel" "s" "[I") (by decide +kernel)) (fun _ h9 => h9) rfl dX6_outputNode_4 ?_
  refine lv_bipush (v := 74) hx hb dX6_outputNode_7 (by decide) ?_
  refine va_iald hx hb hK hP 1 1 rfl rfl (by unfold vp_in; decide) dX6_outputNode_9 ?_
  refine hk_ti (fs 74) (congrArg fs (by decide)) ?_
  refine hk_ti (nI o) (hM.1.2.2.1) ?_
  refine lv_iconst (v := 1) hx hb dX6_outputNode_10 (by decide) ?_
  refine lv_isub hx hb dX6_outputNode_11 ?_
  refine lv_i2l hx hb dX6_outputNode_12 rfl ?_
  refine hk_csi (va_runS (As := [.long ((nI k).toInt64), .long 0, .long ((nI o - (1 : Int32)).toInt64)]) (rest := []) ⟨hx, hb, hml, hown, hts⟩ (c6_in l D g ti ((nI k).toInt64) 0 ((nI o - (1 : Int32)).toInt64) ) (va_cwS 3 hts gX6_outputNode_X6_in rfl rfl rfl (by decide +kernel) ⟨Nat.le_of_ble_eq_true rfl, Nat.le_of_ble_eq_true rfl⟩) (hk_roS hE hP hS [] rfl) rfl rfl hl.1 rfl (lv_room (Nat.le_of_ble_eq_true rfl)) dX6_outputNode_13 ⟨Nat.zero_le _, Nat.zero_le _⟩) (fun r_1 hr_2 => ?_)
  subst hr_2
  refine hk_ti (bI (hn o (nI k))) (by rw [inL_hn (hi_N (by have := hC.2.2.2.2.1; omega)) (by have := hC.2.2.2.2.1; omega)]) ?_
  refine lv_if_eq (tgt := 31) hx hb dX6_outputNode_16 (by decide) (fun c_3 => ?_) (fun c_3 => ?_)
  · have c_3h : bI (hn o (nI k)) = (0 : Int32) := c_3
    exact absurd (bI_0.mp c_3) (by rw [hn_t hk (by have := hC.2.2.2.2.1; omega)]; decide)
  · have c_3h : ¬ bI (hn o (nI k)) = (0 : Int32) := c_3
    refine lv_aload_n hx hb dX6_outputNode_19 rfl (lv_at hl 0 rfl) ?_
    refine va_get (D := D) (ci := 6) (v := .ref ms) (C := RX6) (T := TX6) (N := 11) hx hb hts hi6 hown hK hP 0 rfl rfl 0 (by decide) (hts (.fieldLink RX6 7 "SelfCheckingCircuitModel" "s" "[I") (by decide +kernel)) (fun _ h9 => h9) rfl dX6_outputNode_20 ?_
    refine lv_bipush (v := 75) hx hb dX6_outputNode_23 (by decide) ?_
    refine lv_iload_n hx hb dX6_outputNode_25 rfl (lv_at hl 1 rfl) ?_
    refine lv_iadd hx hb dX6_outputNode_26 ?_
    refine hk_ti (nI (75 + k)) (nI_add 75 k) ?_
    refine va_iald hx hb hK hP 1 1 rfl rfl (vp_in_nI (N := 147) (by have := hC.2.2.2.2.1; omega) (by decide)) dX6_outputNode_27 ?_
    refine hk_ti (fs (75 + k)) (congrArg fs (nI_clamp (by have := hC.2.2.2.2.1; omega))) ?_
    refine lv_goto (tgt := 33) hx hb dX6_outputNode_28 (by decide) ?_
    exact W.iret (v := (fs (75 + k))) hx hb hr (fun tt ht hW => ⟨_, rfl, (hM.2.2.1 k hk).1, ht⟩) (fun _ h => by cases h) dX6_outputNode_33
set_option maxHeartbeats 4000000 in
set_option maxRecDepth 100000 in
theorem c6_outputNode_no (l : Launch) (D : va_G) (g : hk_G) (ti : Nat) (mo : Nat) (ms : Nat) (mr : Nat) (mk : Nat) (mt : Nat) (mv : Nat) (me : Nat) (fs : Nat → Int32) (km : Nat) (ln : Nat) (sp : Nat) (rs : Nat) (ws : Nat) (n : Nat) (N : Nat) (o : Nat) (cd : Nat) (wt : Nat) (ty : Nat → Nat) (pa : Nat → Nat) (pb : Nat → Nat) (vo : Nat → Nat) (nm : Int64) (v : Int32) (hC : Cok n N o cd wt) (hM : MR n N o cd wt ty pa pb vo nm fs) (hv : hn o v = false) : Met l yX6_outputNode wsX6_outputNode ({ frames := 1, cells := 0, slots := 0, locals := 25 }) (va_Pc [.ref mo, .int v] (hk_Ro D g ti [(mo, .inr (6, [.ref ms, .ref mr, .ref mk, .int (nI km), .ref mt, .int (nI ln), .int (nI sp), .int (nI rs), .int (nI ws), .ref mv, .ref me])), (ms, .inl (g.2.1, 147, .inl fs))])) (vp_Si (fun r => r = -101)) 0 0 (fun _ => False) := by
  refine Met.ofW (cc := cX6_outputNode) (maxL := 2) (ret := (some .int)) (by decide) rfl ?_
  intro p e s m args below meth c s₁ Bd hml hv
  obtain ⟨rfl, hP, hE⟩ := hv
  have hx := Bd.exec
  have hb := Bd.bytes
  have hr := Bd.returns
  have hts := atoms_spec (ws := wsX6_outputNode) Bd.pre
  have hown : s.vm.findClass RX6 = some m.cls := findClass_of_methodNamed Bd.named
  have hlocks := Bd.notSynchronized
  have hK := hE.1
  have hi6 : ∀ w ∈ wsX60, w ∈ wsX6_outputNode := fun w h => List.mem_cons_of_mem _ (List.mem_append_right _ h)
  have hS : va_S (fun _ => False) s.heap s.heap [] := va_S.rf
  have hl := lv_entry ([.ref mo, .int v]) (n := 2) (Nat.le_of_ble_eq_true rfl)
  rw [lg_entry_eq]
  generalize (lg_sl ([.ref mo, .int v]) ++ List.replicate (2 - (lg_sl ([.ref mo, .int v])).length) Slot.unset).toArray = ls at hl ⊢
  have hl : lv_has ls 2 [(0, .ref mo), (1, .int v)] := hl
  refine lv_iload_n hx hb dX6_outputNode_0 rfl (lv_at hl 1 rfl) ?_
  refine lv_i2l hx hb dX6_outputNode_1 rfl ?_
  refine lv_lconst (v := 0) hx hb dX6_outputNode_2 (by decide) ?_
  refine lv_aload_n hx hb dX6_outputNode_3 rfl (lv_at hl 0 rfl) ?_
  refine va_get (D := D) (ci := 6) (v := .ref ms) (C := RX6) (T := TX6) (N := 11) hx hb hts hi6 hown hK hP 0 rfl rfl 0 (by decide) (hts (.fieldLink RX6 7 "SelfCheckingCircuitModel" "s" "[I") (by decide +kernel)) (fun _ h9 => h9) rfl dX6_outputNode_4 ?_
  refine lv_bipush (v := 74) hx hb dX6_outputNode_7 (by decide) ?_
  refine va_iald hx hb hK hP 1 1 rfl rfl (by unfold vp_in; decide) dX6_outputNode_9 ?_
  refine hk_ti (fs 74) (congrArg fs (by decide)) ?_
  refine hk_ti (nI o) (hM.1.2.2.1) ?_
  refine lv_iconst (v := 1) hx hb dX6_outputNode_10 (by decide) ?_
  refine lv_isub hx hb dX6_outputNode_11 ?_
  refine lv_i2l hx hb dX6_outputNode_12 rfl ?_
  refine hk_csi (va_runS (As := [.long v.toInt64, .long 0, .long ((nI o - (1 : Int32)).toInt64)]) (rest := []) ⟨hx, hb, hml, hown, hts⟩ (c6_in l D g ti v.toInt64 0 ((nI o - (1 : Int32)).toInt64) ) (va_cwS 3 hts gX6_outputNode_X6_in rfl rfl rfl (by decide +kernel) ⟨Nat.le_of_ble_eq_true rfl, Nat.le_of_ble_eq_true rfl⟩) (hk_roS hE hP hS [] rfl) rfl rfl hl.1 rfl (lv_room (Nat.le_of_ble_eq_true rfl)) dX6_outputNode_13 ⟨Nat.zero_le _, Nat.zero_le _⟩) (fun r_1 hr_2 => ?_)
  subst hr_2
  refine hk_ti (bI (hn o v)) (by rw [inL_hn (hi_N (by have := hC.2.2.2.2.1; omega)) (by have := hC.2.2.2.2.1; omega)]) ?_
  refine lv_if_eq (tgt := 31) hx hb dX6_outputNode_16 (by decide) (fun c_3 => ?_) (fun c_3 => ?_)
  · have c_3h : bI (hn o v) = (0 : Int32) := c_3
    refine lv_bipush (v := (-101)) hx hb dX6_outputNode_31 (by decide) ?_
    exact W.iret (v := (-101)) hx hb hr (fun tt ht hW => ⟨_, rfl, rfl, ht⟩) (fun _ h => by cases h) dX6_outputNode_33
  · have c_3h : ¬ bI (hn o v) = (0 : Int32) := c_3
    exact absurd (bI_0.mpr hv) c_3
set_option maxHeartbeats 4000000 in
set_option maxRecDepth 100000 in
theorem c6_isNormal (l : Launch) (D : va_G) (g : hk_G) (ti : Nat) (mo : Nat) (ms : Nat) (mr : Nat) (mk : Nat) (mt : Nat) (mv : Nat) (me : Nat) (fs : Nat → Int32) (km : Nat) (ln : Nat) (sp : Nat) (rs : Nat) (ws : Nat) (n : Nat) (N : Nat) (o : Nat) (cd : Nat) (wt : Nat) (ty : Nat → Nat) (pa : Nat → Nat) (pb : Nat → Nat) (vo : Nat → Nat) (nm : Int64) (w : Nat) (hC : Cok n N o cd wt) (hM : MR n N o cd wt ty pa pb vo nm fs) (hw : w < 2 ^ n) (hw6 : w < 64) : Met l yX6_isNormal wsX6_isNormal ({ frames := 2, cells := 0, slots := 0, locals := 46 }) (va_Pc [.ref mo, .int (nI w)] (hk_Ro D g ti [(mo, .inr (6, [.ref ms, .ref mr, .ref mk, .int (nI km), .ref mt, .int (nI ln), .int (nI sp), .int (nI rs), .int (nI ws), .ref mv, .ref me])), (ms, .inl (g.2.1, 147, .inl fs))])) (vp_Si (fun r => r = bI (lb nm w))) 0 0 (fun _ => False) := by
  refine Met.ofW (cc := cX6_isNormal) (maxL := 2) (ret := (some .int)) (by decide) rfl ?_
  intro p e s m args below meth c s₁ Bd hml hv
  obtain ⟨rfl, hP, hE⟩ := hv
  have hx := Bd.exec
  have hb := Bd.bytes
  have hr := Bd.returns
  have hts := atoms_spec (ws := wsX6_isNormal) Bd.pre
  have hown : s.vm.findClass RX6 = some m.cls := findClass_of_methodNamed Bd.named
  have hlocks := Bd.notSynchronized
  have hK := hE.1
  have hi6 : ∀ w ∈ wsX60, w ∈ wsX6_isNormal := fun w h => List.mem_cons_of_mem _ (List.mem_append_right _ h)
  have hS : va_S (fun _ => False) s.heap s.heap [] := va_S.rf
  have hl := lv_entry ([.ref mo, .int (nI w)]) (n := 2) (Nat.le_of_ble_eq_true rfl)
  rw [lg_entry_eq]
  generalize (lg_sl ([.ref mo, .int (nI w)]) ++ List.replicate (2 - (lg_sl ([.ref mo, .int (nI w)])).length) Slot.unset).toArray = ls at hl ⊢
  have hl : lv_has ls 2 [(0, .ref mo), (1, .int (nI w))] := hl
  refine lv_aload_n hx hb dX6_isNormal_0 rfl (lv_at hl 0 rfl) ?_
  refine lv_iload_n hx hb dX6_isNormal_1 rfl (lv_at hl 1 rfl) ?_
  refine hk_csi (va_runV (As := [.int (nI w)]) (rest := []) ⟨hx, hb, hml, hown, hts⟩ (c6_isWord l D g ti mo ms mr mk mt mv me fs km ln sp rs ws n N o cd wt ty pa pb vo nm (nI w) hC hM) (cwV 1 hts gX6_isNormal_X6_isWord rfl rfl rfl (by decide +kernel) ⟨Nat.le_of_ble_eq_true rfl, Nat.le_of_ble_eq_true rfl⟩) (hk_roV hE hP hS 6 rfl rfl [0, 1] rfl rfl) rfl rfl hl.1 rfl (lv_room (Nat.le_of_ble_eq_true rfl)) dX6_isNormal_2 ⟨Nat.zero_le _, Nat.zero_le _⟩) (fun r_1 hr_2 => ?_)
  subst hr_2
  refine lv_if_eq (tgt := 20) hx hb dX6_isNormal_5 (by decide) (fun c_3 => ?_) (fun c_3 => ?_)
  · have c_3h : (bI (hn (2 ^ n) (nI w))) = (0 : Int32) := c_3
    exact absurd (bI_0.mp c_3) (by rw [hn_t hw (by have := hC.2.1; exact Nat.lt_of_le_of_lt (Nat.pow_le_pow_right (by decide) this) (by decide : 2 ^ 6 < 2 ^ 31))]; decide)
  · have c_3h : ¬ (bI (hn (2 ^ n) (nI w))) = (0 : Int32) := c_3
    refine lv_aload_n hx hb dX6_isNormal_8 rfl (lv_at hl 0 rfl) ?_
    refine va_get (D := D) (ci := 6) (v := .ref ms) (C := RX6) (T := TX6) (N := 11) hx hb hts hi6 hown hK hP 0 rfl rfl 0 (by decide) (hts (.fieldLink RX6 7 "SelfCheckingCircuitModel" "s" "[I") (by decide +kernel)) (fun _ h9 => h9) rfl dX6_isNormal_9 ?_
    refine lv_bipush (v := 83) hx hb dX6_isNormal_12 (by decide) ?_
    refine lv_iload_n hx hb dX6_isNormal_14 rfl (lv_at hl 1 rfl) ?_
    refine lv_iadd hx hb dX6_isNormal_15 ?_
    refine hk_ti (nI (83 + w)) (nI_add 83 w) ?_
    refine va_iald hx hb hK hP 1 1 rfl rfl (vp_in_nI (N := 147) (by omega) (by decide)) dX6_isNormal_16 ?_
    refine hk_ti (fs (83 + w)) (congrArg fs (nI_clamp (by omega))) ?_
    refine lv_goto (tgt := 22) hx hb dX6_isNormal_17 (by decide) ?_
    exact W.iret (v := (fs (83 + w))) hx hb hr (fun tt ht hW => ⟨_, rfl, hM.2.2.2 w hw6, ht⟩) (fun _ h => by cases h) dX6_isNormal_22
set_option maxHeartbeats 4000000 in
set_option maxRecDepth 100000 in
theorem c6_isNormal_no (l : Launch) (D : va_G) (g : hk_G) (ti : Nat) (mo : Nat) (ms : Nat) (mr : Nat) (mk : Nat) (mt : Nat) (mv : Nat) (me : Nat) (fs : Nat → Int32) (km : Nat) (ln : Nat) (sp : Nat) (rs : Nat) (ws : Nat) (n : Nat) (N : Nat) (o : Nat) (cd : Nat) (wt : Nat) (ty : Nat → Nat) (pa : Nat → Nat) (pb : Nat → Nat) (vo : Nat → Nat) (nm : Int64) (v : Int32) (hC : Cok n N o cd wt) (hM : MR n N o cd wt ty pa pb vo nm fs) (hv : hn (2 ^ n) v = false) : Met l yX6_isNormal wsX6_isNormal ({ frames := 2, cells := 0, slots := 0, locals := 46 }) (va_Pc [.ref mo, .int v] (hk_Ro D g ti [(mo, .inr (6, [.ref ms, .ref mr, .ref mk, .int (nI km), .ref mt, .int (nI ln), .int (nI sp), .int (nI rs), .int (nI ws), .ref mv, .ref me])), (ms, .inl (g.2.1, 147, .inl fs))])) (vp_Si (fun r => r = -101)) 0 0 (fun _ => False) := by
  refine Met.ofW (cc := cX6_isNormal) (maxL := 2) (ret := (some .int)) (by decide) rfl ?_
  intro p e s m args below meth c s₁ Bd hml hv
  obtain ⟨rfl, hP, hE⟩ := hv
  have hx := Bd.exec
  have hb := Bd.bytes
  have hr := Bd.returns
  have hts := atoms_spec (ws := wsX6_isNormal) Bd.pre
  have hown : s.vm.findClass RX6 = some m.cls := findClass_of_methodNamed Bd.named
  have hlocks := Bd.notSynchronized
  have hK := hE.1
  have hS : va_S (fun _ => False) s.heap s.heap [] := va_S.rf
  have hl := lv_entry ([.ref mo, .int v]) (n := 2) (Nat.le_of_ble_eq_true rfl)
  rw [lg_entry_eq]
  generalize (lg_sl ([.ref mo, .int v]) ++ List.replicate (2 - (lg_sl ([.ref mo, .int v])).length) Slot.unset).toArray = ls at hl ⊢
  have hl : lv_has ls 2 [(0, .ref mo), (1, .int v)] := hl
  refine lv_aload_n hx hb dX6_isNormal_0 rfl (lv_at hl 0 rfl) ?_
  refine lv_iload_n hx hb dX6_isNormal_1 rfl (lv_at hl 1 rfl) ?_
  refine hk_csi (va_runV (As := [.int v]) (rest := []) ⟨hx, hb, hml, hown, hts⟩ (c6_isWord l D g ti mo ms mr mk mt mv me fs km ln sp rs ws n N o cd wt ty pa pb vo nm v hC hM) (cwV 1 hts gX6_isNormal_X6_isWord rfl rfl rfl (by decide +kernel) ⟨Nat.le_of_ble_eq_true rfl, Nat.le_of_ble_eq_true rfl⟩) (hk_roV hE hP hS 6 rfl rfl [0, 1] rfl rfl) rfl rfl hl.1 rfl (lv_room (Nat.le_of_ble_eq_true rfl)) dX6_isNormal_2 ⟨Nat.zero_le _, Nat.zero_le _⟩) (fun r_1 hr_2 => ?_)
  subst hr_2
  refine lv_if_eq (tgt := 20) hx hb dX6_isNormal_5 (by decide) (fun c_3 => ?_) (fun c_3 => ?_)
  · have c_3h : (bI (hn (2 ^ n) v)) = (0 : Int32) := c_3
    refine lv_bipush (v := (-101)) hx hb dX6_isNormal_20 (by decide) ?_
    exact W.iret (v := (-101)) hx hb hr (fun tt ht hW => ⟨_, rfl, rfl, ht⟩) (fun _ h => by cases h) dX6_isNormal_22
  · have c_3h : ¬ (bI (hn (2 ^ n) v)) = (0 : Int32) := c_3
    exact absurd (bI_0.mpr hv) c_3
