theorem pw_le {n : Nat} (h : n ≤ 6) : 2 ^ n ≤ 64 := (Nat.pow_le_pow_right (by decide) h : 2 ^ n ≤ 2 ^ 6)
theorem ic_wd {cd o m : Nat} {Q : Nat → Bool} : ic cd o m (fun k => (wd Q o).testBit k) = ic cd o m Q := ic_cong fun i hi => wd_bit Q hi
set_option maxHeartbeats 4000000 in
set_option maxRecDepth 100000 in
theorem c6_exposes (l : Launch) (D : va_G) (g : hk_G) (ti : Nat) (sz : Nat) (mo : Nat) (ms : Nat) (mr : Nat) (mk : Nat) (mt : Nat) (mv : Nat) (me : Nat) (fs : Nat → Int32) (km : Nat) (ln : Nat) (sp : Nat) (rs : Nat) (ws : Nat) (fv : Nat → Int32) (n : Nat) (N : Nat) (o : Nat) (cd : Nat) (wt : Nat) (ty : Nat → Nat) (pa : Nat → Nat) (pb : Nat → Nat) (vo : Nat → Nat) (nm : Int64) (w : Nat) (f : Int32) (hC : Cok n N o cd wt) (hM : MR n N o cd wt ty pa pb vo nm fs) (hw : w < 64) (hf : fK f) : Met l yX6_exposes wsX6_exposes ({ frames := 3, cells := 0, slots := 0, locals := 69 }) (va_Pc [.ref mo, .int (nI w), .int f] (hk_In D g ti [(mo, .inr (6, [.ref ms, .ref mr, .ref mk, .int (nI km), .ref mt, .int (nI ln), .int (nI sp), .int (nI rs), .int (nI ws), .ref mv, .ref me])), (ms, .inl (g.2.1, 147, .inl fs)), (mv, .inl (g.2.1, 30, .inl fv))] sz)) (va_Qi (S := Nat → Int32) (fun r _ => r = bI (exB n o cd wt ty pa pb vo nm f w)) (fun u => hk_Out D (va_A [(mo, .inr (6, [.ref ms, .ref mr, .ref mk, .int (nI km), .ref mt, .int (nI ln), .int (nI sp), .int (nI rs), .int (nI ws), .ref mv, .ref me])), (ms, .inl (g.2.1, 147, .inl fs)), (mv, .inl (g.2.1, 30, .inl fv))] sz) (match u with | f' => [(mo, .inr (6, [.ref ms, .ref mr, .ref mk, .int (nI km), .ref mt, .int (nI ln), .int (nI sp), .int (nI rs), .int (nI ws), .ref mv, .ref me])), (ms, .inl (g.2.1, 147, .inl fs)), (mv, .inl (g.2.1, 30, .inl f'))])) (va_A [(mo, .inr (6, [.ref ms, .ref mr, .ref mk, .int (nI km), .ref mt, .int (nI ln), .int (nI sp), .int (nI rs), .int (nI ws), .ref mv, .ref me])), (ms, .inl (g.2.1, 147, .inl fs)), (mv, .inl (g.2.1, 30, .inl fv))] sz)) 0 0 (va_A [(mo, .inr (6, [.ref ms, .ref mr, .ref mk, .int (nI km), .ref mt, .int (nI ln), .int (nI sp), .int (nI rs), .int (nI ws), .ref mv, .ref me])), (ms, .inl (g.2.1, 147, .inl fs)), (mv, .inl (g.2.1, 30, .inl fv))] sz) := by
  refine Met.ofW (cc := cX6_exposes) (maxL := 3) (ret := (some .boolean)) (by decide) rfl ?_
  intro p e s m args below meth c s₁ Bd hml hv
  obtain ⟨rfl, hsz, hP, hD0, hE⟩ := hv
  have hx := Bd.exec
  have hb := Bd.bytes
  have hr := Bd.returns
  have hts := atoms_spec (ws := wsX6_exposes) Bd.pre
  have hown : s.vm.findClass RX6 = some m.cls := findClass_of_methodNamed Bd.named
  have hlocks := Bd.notSynchronized
  have hK := hE.1
  have hi6 : ∀ w ∈ wsX60, w ∈ wsX6_exposes := fun w h => List.mem_cons_of_mem _ (List.mem_append_right _ h)
  subst hsz
  have hD := hD0.self (sz := s.heap.size)
  generalize hAe : va_A [(mo, .inr (6, [.ref ms, .ref mr, .ref mk, .int (nI km), .ref mt, .int (nI ln), .int (nI sp), .int (nI rs), .int (nI ws), .ref mv, .ref me])), (ms, .inl (g.2.1, 147, .inl fs)), (mv, .inl (g.2.1, 30, .inl fv))] s.heap.size = A at hD hE ⊢
  have hA : ∀ q : Nat, s.heap.size ≤ q → A q := fun q h => by rw [← hAe]; exact Or.inr h
  have hS : va_S A s.heap s.heap [] := va_S.rf
  have hl := lv_entry ([.ref mo, .int (nI w), .int f]) (n := 3) (Nat.le_of_ble_eq_true rfl)
  rw [lg_entry_eq]
  generalize (lg_sl ([.ref mo, .int (nI w), .int f]) ++ List.replicate (3 - (lg_sl ([.ref mo, .int (nI w), .int f])).length) Slot.unset).toArray = ls at hl ⊢
  have hl : lv_has ls 3 [(0, .ref mo), (1, .int (nI w)), (2, .int f)] := hl
  refine lv_aload_n hx hb dX6_exposes_0 rfl (lv_at hl 0 rfl) ?_
  refine va_get (D := D) (ci := 6) (v := .ref ms) (C := RX6) (T := TX6) (N := 11) hx hb hts hi6 hown hK hP 0 rfl rfl 0 (by decide) (hts (.fieldLink RX6 7 "SelfCheckingCircuitModel" "s" "[I") (by decide +kernel)) (fun _ h9 => h9) rfl dX6_exposes_1 ?_
  refine lv_bipush (v := 83) hx hb dX6_exposes_4 (by decide) ?_
  refine lv_iload_n hx hb dX6_exposes_6 rfl (lv_at hl 1 rfl) ?_
  refine lv_iadd hx hb dX6_exposes_7 ?_
  refine hk_ti (nI (83 + w)) (nI_add 83 w) ?_
  refine va_iald hx hb hK hP 1 1 rfl rfl (vp_in_nI (N := 147) (by have := hw; omega) (by decide)) dX6_exposes_8 ?_
  refine hk_ti (fs (83 + w)) (congrArg fs (nI_clamp (by have := hw; omega))) ?_
  refine hk_ti (bI (lb nm w)) (hM.2.2.2 w (hw)) ?_
  refine lv_iconst (v := 1) hx hb dX6_exposes_9 (by decide) ?_
  refine lv_icmp_ne (tgt := 30) hx hb dX6_exposes_10 (by decide) (fun c_1 => ?_) (fun c_1 => ?_)
  · have c_1h : ¬ bI (lb nm w) = (1 : Int32) := c_1
    refine lv_iconst (v := 0) hx hb dX6_exposes_30 (by decide) ?_
    have hP9 := hP.sub (ws' := [(mo, .inr (6, [.ref ms, .ref mr, .ref mk, .int (nI km), .ref mt, .int (nI ln), .int (nI sp), .int (nI rs), .int (nI ws), .ref mv, .ref me])), (ms, .inl (g.2.1, 147, .inl fs)), (mv, .inl (g.2.1, 30, .inl fv))]) [0, 1, 2] rfl
    have hD9 := hD.sub (ws' := [(mo, .inr (6, [.ref ms, .ref mr, .ref mk, .int (nI km), .ref mt, .int (nI ln), .int (nI sp), .int (nI rs), .int (nI ws), .ref mv, .ref me])), (ms, .inl (g.2.1, 147, .inl fs)), (mv, .inl (g.2.1, 30, .inl fv))]) [0, 1, 2] (by decide) rfl
    exact W.zret (v := 0) hx hb hr (hk_z0) (fun tt ht hW => ⟨⟨_, fv, rfl, by unfold exB; rw [bI_n1 c_1]; rfl, by rw [ht]; exact hP9, hD9⟩, hS.F ht⟩) hS.2.2 dX6_exposes_31
  · have c_1h : bI (lb nm w) = (1 : Int32) := c_1
    refine lv_aload_n hx hb dX6_exposes_13 rfl (lv_at hl 0 rfl) ?_
    refine lv_aload_n hx hb dX6_exposes_14 rfl (lv_at hl 0 rfl) ?_
    refine lv_iload_n hx hb dX6_exposes_15 rfl (lv_at hl 1 rfl) ?_
    refine lv_iload_n hx hb dX6_exposes_16 rfl (lv_at hl 2 rfl) ?_
    refine hk_cmi (wr := []) (va_runV (As := [.int (nI w), .int f]) (rest := [.ref mo]) ⟨hx, hb, hml, hown, hts⟩ (c6_told l D g ti _ mo ms mr mk mt mv me fs km ln sp rs ws fv n N o cd wt ty pa pb vo nm w f hC hM hw hf) (cwV 2 hts gX6_exposes_X6_told rfl rfl rfl (by decide +kernel) ⟨Nat.le_of_ble_eq_true rfl, Nat.le_of_ble_eq_true rfl⟩) (hk_inV hE hP hD hS hA 6 rfl rfl [0, 1, 2] (by decide) rfl rfl) rfl rfl hl.1 rfl (lv_room (Nat.le_of_ble_eq_true rfl)) dX6_exposes_17 ⟨Nat.zero_le _, Nat.zero_le _⟩) hP hD hS hA [0, 1, 2] [] rfl rfl (by decide) (by decide) (fun r_2 tv H locs hr_3 hP hD hS => ?_)
    try dsimp only at hr_3
    have hP : va_P D vwCl [(mo, .inr (6, [.ref ms, .ref mr, .ref mk, .int (nI km), .ref mt, .int (nI ln), .int (nI sp), .int (nI rs), .int (nI ws), .ref mv, .ref me])), (ms, .inl (g.2.1, 147, .inl fs)), (mv, .inl (g.2.1, 30, .inl tv))] H := hP
    have hD : va_D A [(mo, .inr (6, [.ref ms, .ref mr, .ref mk, .int (nI km), .ref mt, .int (nI ln), .int (nI sp), .int (nI rs), .int (nI ws), .ref mv, .ref me])), (ms, .inl (g.2.1, 147, .inl fs)), (mv, .inl (g.2.1, 30, .inl tv))] := hD
    refine hk_ti (nI (wd (oB n ty pa pb vo f w) o)) hr_3 ?_
    refine hk_csi (va_runV (As := [.int (nI (wd (oB n ty pa pb vo f w) o))]) (rest := []) ⟨hx, hb, hml, hown, hts⟩ (c6_isCoded l D g ti mo ms mr mk mt mv me fs km ln sp rs ws n N o cd wt ty pa pb vo nm (wd (oB n ty pa pb vo f w) o) hC hM (wd_lt _ o)) (cwV 1 hts gX6_exposes_X6_isCoded rfl rfl rfl (by decide +kernel) ⟨Nat.le_of_ble_eq_true rfl, Nat.le_of_ble_eq_true rfl⟩) (hk_roV hE hP hS 6 rfl rfl [0, 1] rfl rfl) rfl rfl hl.1 rfl (lv_room (Nat.le_of_ble_eq_true rfl)) dX6_exposes_20 ⟨Nat.zero_le _, Nat.zero_le _⟩) (fun r_4 hr_5 => ?_)
    subst hr_5
    refine hk_ti (bI (ic cd o wt (oB n ty pa pb vo f w))) (by rw [ic_wd]) ?_
    refine lv_if_ne (tgt := 30) hx hb dX6_exposes_23 (by decide) (fun c_6 => ?_) (fun c_6 => ?_)
    · have c_6h : ¬ bI (ic cd o wt (oB n ty pa pb vo f w)) = (0 : Int32) := c_6
      refine lv_iconst (v := 0) hx hb dX6_exposes_30 (by decide) ?_
      have hP9 := hP.sub (ws' := [(mo, .inr (6, [.ref ms, .ref mr, .ref mk, .int (nI km), .ref mt, .int (nI ln), .int (nI sp), .int (nI rs), .int (nI ws), .ref mv, .ref me])), (ms, .inl (g.2.1, 147, .inl fs)), (mv, .inl (g.2.1, 30, .inl tv))]) [0, 1, 2] rfl
      have hD9 := hD.sub (ws' := [(mo, .inr (6, [.ref ms, .ref mr, .ref mk, .int (nI km), .ref mt, .int (nI ln), .int (nI sp), .int (nI rs), .int (nI ws), .ref mv, .ref me])), (ms, .inl (g.2.1, 147, .inl fs)), (mv, .inl (g.2.1, 30, .inl tv))]) [0, 1, 2] (by decide) rfl
      exact W.zret (v := 0) hx hb hr (hk_z0) (fun tt ht hW => ⟨⟨_, tv, rfl, by unfold exB; rw [bI_1.mp c_1, bI_n0 c_6]; rfl, by rw [ht]; exact hP9, hD9⟩, hS.F ht⟩) hS.2.2 dX6_exposes_31
    · have c_6h : bI (ic cd o wt (oB n ty pa pb vo f w)) = (0 : Int32) := c_6
      refine lv_iconst (v := 1) hx hb dX6_exposes_26 (by decide) ?_
      refine lv_goto (tgt := 31) hx hb dX6_exposes_27 (by decide) ?_
      have hP9 := hP.sub (ws' := [(mo, .inr (6, [.ref ms, .ref mr, .ref mk, .int (nI km), .ref mt, .int (nI ln), .int (nI sp), .int (nI rs), .int (nI ws), .ref mv, .ref me])), (ms, .inl (g.2.1, 147, .inl fs)), (mv, .inl (g.2.1, 30, .inl tv))]) [0, 1, 2] rfl
      have hD9 := hD.sub (ws' := [(mo, .inr (6, [.ref ms, .ref mr, .ref mk, .int (nI km), .ref mt, .int (nI ln), .int (nI sp), .int (nI rs), .int (nI ws), .ref mv, .ref me])), (ms, .inl (g.2.1, 147, .inl fs)), (mv, .inl (g.2.1, 30, .inl tv))]) [0, 1, 2] (by decide) rfl
      exact W.zret (v := 1) hx hb hr (hk_z1) (fun tt ht hW => ⟨⟨_, tv, rfl, by unfold exB; rw [bI_1.mp c_1, bI_0.mp c_6]; rfl, by rw [ht]; exact hP9, hD9⟩, hS.F ht⟩) hS.2.2 dX6_exposes_31
theorem wd_31 {Q : Nat → Bool} {o : Nat} (h : o ≤ 6) : wd Q o < 2 ^ 31 := Nat.lt_of_lt_of_le (wd_lt Q o) (Nat.pow_le_pow_right (by decide) (by omega))
set_option maxHeartbeats 4000000 in
set_option maxRecDepth 100000 in
theorem c6_isUnsafe (l : Launch) (D : va_G) (g : hk_G) (ti : Nat) (sz : Nat) (mo : Nat) (ms : Nat) (mr : Nat) (mk : Nat) (mt : Nat) (mv : Nat) (me : Nat) (fs : Nat → Int32) (km : Nat) (ln : Nat) (sp : Nat) (rs : Nat) (ws : Nat) (fv : Nat → Int32) (n : Nat) (N : Nat) (o : Nat) (cd : Nat) (wt : Nat) (ty : Nat → Nat) (pa : Nat → Nat) (pb : Nat → Nat) (vo : Nat → Nat) (nm : Int64) (w : Nat) (f : Int32) (hC : Cok n N o cd wt) (hM : MR n N o cd wt ty pa pb vo nm fs) (hw : w < 64) (hf : fK f) : Met l yX6_isUnsafe wsX6_isUnsafe ({ frames := 3, cells := 0, slots := 0, locals := 69 }) (va_Pc [.ref mo, .int (nI w), .int f] (hk_In D g ti [(mo, .inr (6, [.ref ms, .ref mr, .ref mk, .int (nI km), .ref mt, .int (nI ln), .int (nI sp), .int (nI rs), .int (nI ws), .ref mv, .ref me])), (ms, .inl (g.2.1, 147, .inl fs)), (mv, .inl (g.2.1, 30, .inl fv))] sz)) (va_Qi (S := Nat → Int32) (fun r _ => r = bI (unB n o cd wt ty pa pb vo nm f w)) (fun u => hk_Out D (va_A [(mo, .inr (6, [.ref ms, .ref mr, .ref mk, .int (nI km), .ref mt, .int (nI ln), .int (nI sp), .int (nI rs), .int (nI ws), .ref mv, .ref me])), (ms, .inl (g.2.1, 147, .inl fs)), (mv, .inl (g.2.1, 30, .inl fv))] sz) (match u with | f' => [(mo, .inr (6, [.ref ms, .ref mr, .ref mk, .int (nI km), .ref mt, .int (nI ln), .int (nI sp), .int (nI rs), .int (nI ws), .ref mv, .ref me])), (ms, .inl (g.2.1, 147, .inl fs)), (mv, .inl (g.2.1, 30, .inl f'))])) (va_A [(mo, .inr (6, [.ref ms, .ref mr, .ref mk, .int (nI km), .ref mt, .int (nI ln), .int (nI sp), .int (nI rs), .int (nI ws), .ref mv, .ref me])), (ms, .inl (g.2.1, 147, .inl fs)), (mv, .inl (g.2.1, 30, .inl fv))] sz)) 0 0 (va_A [(mo, .inr (6, [.ref ms, .ref mr, .ref mk, .int (nI km), .ref mt, .int (nI ln), .int (nI sp), .int (nI rs), .int (nI ws), .ref mv, .ref me])), (ms, .inl (g.2.1, 147, .inl fs)), (mv, .inl (g.2.1, 30, .inl fv))] sz) := by
  refine Met.ofW (cc := cX6_isUnsafe) (maxL := 5) (ret := (some .boolean)) (by decide) rfl ?_
  intro p e s m args below meth c s₁ Bd hml hv
  obtain ⟨rfl, hsz, hP, hD0, hE⟩ := hv
  have hx := Bd.exec
  have hb := Bd.bytes
  have hr := Bd.returns
  have hts := atoms_spec (ws := wsX6_isUnsafe) Bd.pre
  have hown : s.vm.findClass RX6 = some m.cls := findClass_of_methodNamed Bd.named
  have hlocks := Bd.notSynchronized
  have hK := hE.1
  have hi6 : ∀ w ∈ wsX60, w ∈ wsX6_isUnsafe := fun w h => List.mem_cons_of_mem _ (List.mem_append_right _ h)
  subst hsz
  have hD := hD0.self (sz := s.heap.size)
  generalize hAe : va_A [(mo, .inr (6, [.ref ms, .ref mr, .ref mk, .int (nI km), .ref mt, .int (nI ln), .int (nI sp), .int (nI rs), .int (nI ws), .ref mv, .ref me])), (ms, .inl (g.2.1, 147, .inl fs)), (mv, .inl (g.2.1, 30, .inl fv))] s.heap.size = A at hD hE ⊢
  have hA : ∀ q : Nat, s.heap.size ≤ q → A q := fun q h => by rw [← hAe]; exact Or.inr h
  have hS : va_S A s.heap s.heap [] := va_S.rf
  have hl := lv_entry ([.ref mo, .int (nI w), .int f]) (n := 5) (Nat.le_of_ble_eq_true rfl)
  rw [lg_entry_eq]
  generalize (lg_sl ([.ref mo, .int (nI w), .int f]) ++ List.replicate (5 - (lg_sl ([.ref mo, .int (nI w), .int f])).length) Slot.unset).toArray = ls at hl ⊢
  have hl : lv_has ls 5 [(0, .ref mo), (1, .int (nI w)), (2, .int f)] := hl
  refine lv_aload_n hx hb dX6_isUnsafe_0 rfl (lv_at hl 0 rfl) ?_
  refine va_get (D := D) (ci := 6) (v := .ref ms) (C := RX6) (T := TX6) (N := 11) hx hb hts hi6 hown hK hP 0 rfl rfl 0 (by decide) (hts (.fieldLink RX6 7 "SelfCheckingCircuitModel" "s" "[I") (by decide +kernel)) (fun _ h9 => h9) rfl dX6_isUnsafe_1 ?_
  refine lv_bipush (v := 83) hx hb dX6_isUnsafe_4 (by decide) ?_
  refine lv_iload_n hx hb dX6_isUnsafe_6 rfl (lv_at hl 1 rfl) ?_
  refine lv_iadd hx hb dX6_isUnsafe_7 ?_
  refine hk_ti (nI (83 + w)) (nI_add 83 w) ?_
  refine va_iald hx hb hK hP 1 1 rfl rfl (vp_in_nI (N := 147) (by have := hw; omega) (by decide)) dX6_isUnsafe_8 ?_
  refine hk_ti (fs (83 + w)) (congrArg fs (nI_clamp (by have := hw; omega))) ?_
  refine hk_ti (bI (lb nm w)) (hM.2.2.2 w (hw)) ?_
  refine lv_if_ne (tgt := 14) hx hb dX6_isUnsafe_9 (by decide) (fun c_1 => ?_) (fun c_1 => ?_)
  · have c_1h : ¬ bI (lb nm w) = (0 : Int32) := c_1
    refine lv_aload_n hx hb dX6_isUnsafe_14 rfl (lv_at hl 0 rfl) ?_
    refine lv_iload_n hx hb dX6_isUnsafe_15 rfl (lv_at hl 1 rfl) ?_
    refine lv_iconst (v := (-1)) hx hb dX6_isUnsafe_16 (by decide) ?_
    refine hk_cmi (wr := []) (va_runV (As := [.int (nI w), .int (-1)]) (rest := []) ⟨hx, hb, hml, hown, hts⟩ (c6_told l D g ti _ mo ms mr mk mt mv me fs km ln sp rs ws fv n N o cd wt ty pa pb vo nm w (-1) hC hM hw (Or.inl rfl)) (cwV 2 hts gX6_isUnsafe_X6_told rfl rfl rfl (by decide +kernel) ⟨Nat.le_of_ble_eq_true rfl, Nat.le_of_ble_eq_true rfl⟩) (hk_inV hE hP hD hS hA 6 rfl rfl [0, 1, 2] (by decide) rfl rfl) rfl rfl hl.1 rfl (lv_room (Nat.le_of_ble_eq_true rfl)) dX6_isUnsafe_17 ⟨Nat.zero_le _, Nat.zero_le _⟩) hP hD hS hA [0, 1, 2] [] rfl rfl (by decide) (by decide) (fun r_2 tv H locs hr_3 hP hD hS => ?_)
    try dsimp only at hr_3
    have hP : va_P D vwCl [(mo, .inr (6, [.ref ms, .ref mr, .ref mk, .int (nI km), .ref mt, .int (nI ln), .int (nI sp), .int (nI rs), .int (nI ws), .ref mv, .ref me])), (ms, .inl (g.2.1, 147, .inl fs)), (mv, .inl (g.2.1, 30, .inl tv))] H := hP
    have hD : va_D A [(mo, .inr (6, [.ref ms, .ref mr, .ref mk, .int (nI km), .ref mt, .int (nI ln), .int (nI sp), .int (nI rs), .int (nI ws), .ref mv, .ref me])), (ms, .inl (g.2.1, 147, .inl fs)), (mv, .inl (g.2.1, 30, .inl tv))] := hD
    refine hk_ti (nI (wd (oB n ty pa pb vo (-1) w) o)) hr_3 ?_
    refine lv_istore_n (lv' := [(3, .int (nI (wd (oB n ty pa pb vo (-1) w) o))), (0, .ref mo), (1, .int (nI w)), (2, .int f)]) hx hb dX6_isUnsafe_20 rfl hl (by decide) rfl (fun ls hl => ?_)
    refine lv_aload_n hx hb dX6_isUnsafe_21 rfl (lv_at hl 1 rfl) ?_
    refine lv_iload_n hx hb dX6_isUnsafe_22 rfl (lv_at hl 2 rfl) ?_
    refine lv_iload_n hx hb dX6_isUnsafe_23 rfl (lv_at hl 3 rfl) ?_
    refine hk_cmi (wr := []) (va_runV (As := [.int (nI w), .int f]) (rest := []) ⟨hx, hb, hml, hown, hts⟩ (c6_told l D g ti _ mo ms mr mk mt mv me fs km ln sp rs ws tv n N o cd wt ty pa pb vo nm w f hC hM hw hf) (cwV 2 hts gX6_isUnsafe_X6_told rfl rfl rfl (by decide +kernel) ⟨Nat.le_of_ble_eq_true rfl, Nat.le_of_ble_eq_true rfl⟩) (hk_inV hE hP hD hS hA 6 rfl rfl [0, 1, 2] (by decide) rfl rfl) rfl rfl hl.1 rfl (lv_room (Nat.le_of_ble_eq_true rfl)) dX6_isUnsafe_24 ⟨Nat.zero_le _, Nat.zero_le _⟩) hP hD hS hA [0, 1, 2] [] rfl rfl (by decide) (by decide) (fun r_4 tw H locs hr_5 hP hD hS => ?_)
    try dsimp only at hr_5
    have hP : va_P D vwCl [(mo, .inr (6, [.ref ms, .ref mr, .ref mk, .int (nI km), .ref mt, .int (nI ln), .int (nI sp), .int (nI rs), .int (nI ws), .ref mv, .ref me])), (ms, .inl (g.2.1, 147, .inl fs)), (mv, .inl (g.2.1, 30, .inl tw))] H := hP
    have hD : va_D A [(mo, .inr (6, [.ref ms, .ref mr, .ref mk, .int (nI km), .ref mt, .int (nI ln), .int (nI sp), .int (nI rs), .int (nI ws), .ref mv, .ref me])), (ms, .inl (g.2.1, 147, .inl fs)), (mv, .inl (g.2.1, 30, .inl tw))] := hD
    refine hk_ti (nI (wd (oB n ty pa pb vo f w) o)) hr_5 ?_
    refine lv_istore (lv' := [(4, .int (nI (wd (oB n ty pa pb vo f w) o))), (3, .int (nI (wd (oB n ty pa pb vo (-1) w) o))), (0, .ref mo), (1, .int (nI w)), (2, .int f)]) hx hb dX6_isUnsafe_27 hl (by decide) rfl (fun ls hl => ?_)
    refine lv_aload_n hx hb dX6_isUnsafe_29 rfl (lv_at hl 2 rfl) ?_
    refine lv_iload hx hb dX6_isUnsafe_30 (lv_at hl 0 rfl) ?_
    refine hk_csi (va_runV (As := [.int (nI (wd (oB n ty pa pb vo f w) o))]) (rest := []) ⟨hx, hb, hml, hown, hts⟩ (c6_isCoded l D g ti mo ms mr mk mt mv me fs km ln sp rs ws n N o cd wt ty pa pb vo nm (wd (oB n ty pa pb vo f w) o) hC hM (wd_lt _ o)) (cwV 1 hts gX6_isUnsafe_X6_isCoded rfl rfl rfl (by decide +kernel) ⟨Nat.le_of_ble_eq_true rfl, Nat.le_of_ble_eq_true rfl⟩) (hk_roV hE hP hS 6 rfl rfl [0, 1] rfl rfl) rfl rfl hl.1 rfl (lv_room (Nat.le_of_ble_eq_true rfl)) dX6_isUnsafe_32 ⟨Nat.zero_le _, Nat.zero_le _⟩) (fun r_6 hr_7 => ?_)
    subst hr_7
    refine hk_ti (bI (ic cd o wt (oB n ty pa pb vo f w))) (by rw [ic_wd]) ?_
    refine lv_if_eq (tgt := 48) hx hb dX6_isUnsafe_35 (by decide) (fun c_8 => ?_) (fun c_8 => ?_)
    · have c_8h : bI (ic cd o wt (oB n ty pa pb vo f w)) = (0 : Int32) := c_8
      refine lv_iconst (v := 0) hx hb dX6_isUnsafe_48 (by decide) ?_
      have hP9 := hP.sub (ws' := [(mo, .inr (6, [.ref ms, .ref mr, .ref mk, .int (nI km), .ref mt, .int (nI ln), .int (nI sp), .int (nI rs), .int (nI ws), .ref mv, .ref me])), (ms, .inl (g.2.1, 147, .inl fs)), (mv, .inl (g.2.1, 30, .inl tw))]) [0, 1, 2] rfl
      have hD9 := hD.sub (ws' := [(mo, .inr (6, [.ref ms, .ref mr, .ref mk, .int (nI km), .ref mt, .int (nI ln), .int (nI sp), .int (nI rs), .int (nI ws), .ref mv, .ref me])), (ms, .inl (g.2.1, 147, .inl fs)), (mv, .inl (g.2.1, 30, .inl tw))]) [0, 1, 2] (by decide) rfl
      exact W.zret (v := 0) hx hb hr (hk_z0) (fun tt ht hW => ⟨⟨_, tw, rfl, by unfold unB; rw [bI_0.mp c_8, Bool.and_false]; rfl, by rw [ht]; exact hP9, hD9⟩, hS.F ht⟩) hS.2.2 dX6_isUnsafe_49
    · have c_8h : ¬ bI (ic cd o wt (oB n ty pa pb vo f w)) = (0 : Int32) := c_8
      refine lv_iload hx hb dX6_isUnsafe_38 (lv_at hl 0 rfl) ?_
      refine lv_iload_n hx hb dX6_isUnsafe_40 rfl (lv_at hl 1 rfl) ?_
      refine lv_icmp_eq (tgt := 48) hx hb dX6_isUnsafe_41 (by decide) (fun c_9 => ?_) (fun c_9 => ?_)
      · have c_9h : nI (wd (oB n ty pa pb vo f w) o) = nI (wd (oB n ty pa pb vo (-1) w) o) := c_9
        refine lv_iconst (v := 0) hx hb dX6_isUnsafe_48 (by decide) ?_
        have hP9 := hP.sub (ws' := [(mo, .inr (6, [.ref ms, .ref mr, .ref mk, .int (nI km), .ref mt, .int (nI ln), .int (nI sp), .int (nI rs), .int (nI ws), .ref mv, .ref me])), (ms, .inl (g.2.1, 147, .inl fs)), (mv, .inl (g.2.1, 30, .inl tw))]) [0, 1, 2] rfl
        have hD9 := hD.sub (ws' := [(mo, .inr (6, [.ref ms, .ref mr, .ref mk, .int (nI km), .ref mt, .int (nI ln), .int (nI sp), .int (nI rs), .int (nI ws), .ref mv, .ref me])), (ms, .inl (g.2.1, 147, .inl fs)), (mv, .inl (g.2.1, 30, .inl tw))]) [0, 1, 2] (by decide) rfl
        exact W.zret (v := 0) hx hb hr (hk_z0) (fun tt ht hW => ⟨⟨_, tw, rfl, by unfold unB; rw [dfB_wd, decide_eq_false (fun q => q (nI_inj c_9 (wd_31 hC.2.2.2.2.1) (wd_31 hC.2.2.2.2.1))), Bool.and_false, Bool.false_and]; rfl, by rw [ht]; exact hP9, hD9⟩, hS.F ht⟩) hS.2.2 dX6_isUnsafe_49
      · have c_9h : ¬ nI (wd (oB n ty pa pb vo f w) o) = nI (wd (oB n ty pa pb vo (-1) w) o) := c_9
        refine lv_iconst (v := 1) hx hb dX6_isUnsafe_44 (by decide) ?_
        refine lv_goto (tgt := 49) hx hb dX6_isUnsafe_45 (by decide) ?_
        have hP9 := hP.sub (ws' := [(mo, .inr (6, [.ref ms, .ref mr, .ref mk, .int (nI km), .ref mt, .int (nI ln), .int (nI sp), .int (nI rs), .int (nI ws), .ref mv, .ref me])), (ms, .inl (g.2.1, 147, .inl fs)), (mv, .inl (g.2.1, 30, .inl tw))]) [0, 1, 2] rfl
        have hD9 := hD.sub (ws' := [(mo, .inr (6, [.ref ms, .ref mr, .ref mk, .int (nI km), .ref mt, .int (nI ln), .int (nI sp), .int (nI rs), .int (nI ws), .ref mv, .ref me])), (ms, .inl (g.2.1, 147, .inl fs)), (mv, .inl (g.2.1, 30, .inl tw))]) [0, 1, 2] (by decide) rfl
        exact W.zret (v := 1) hx hb hr (hk_z1) (fun tt ht hW => ⟨⟨_, tw, rfl, by unfold unB; rw [bI_n0 c_1, bI_n0 c_8, dfB_wd, decide_eq_true (show ¬ wd (oB n ty pa pb vo f w) o = wd (oB n ty pa pb vo (-1) w) o from fun q => c_9 (by rw [q]))]; rfl, by rw [ht]; exact hP9, hD9⟩, hS.F ht⟩) hS.2.2 dX6_isUnsafe_49
  · have c_1h : bI (lb nm w) = (0 : Int32) := c_1
    refine lv_iconst (v := 0) hx hb dX6_isUnsafe_12 (by decide) ?_
    have hP9 := hP.sub (ws' := [(mo, .inr (6, [.ref ms, .ref mr, .ref mk, .int (nI km), .ref mt, .int (nI ln), .int (nI sp), .int (nI rs), .int (nI ws), .ref mv, .ref me])), (ms, .inl (g.2.1, 147, .inl fs)), (mv, .inl (g.2.1, 30, .inl fv))]) [0, 1, 2] rfl
    have hD9 := hD.sub (ws' := [(mo, .inr (6, [.ref ms, .ref mr, .ref mk, .int (nI km), .ref mt, .int (nI ln), .int (nI sp), .int (nI rs), .int (nI ws), .ref mv, .ref me])), (ms, .inl (g.2.1, 147, .inl fs)), (mv, .inl (g.2.1, 30, .inl fv))]) [0, 1, 2] (by decide) rfl
    exact W.zret (v := 0) hx hb hr (hk_z0) (fun tt ht hW => ⟨⟨_, fv, rfl, by unfold unB; rw [bI_0.mp c_1]; rfl, by rw [ht]; exact hP9, hD9⟩, hS.F ht⟩) hS.2.2 dX6_isUnsafe_13
set_option maxHeartbeats 4000000 in
set_option maxRecDepth 100000 in
theorem c6_test (l : Launch) (D : va_G) (g : hk_G) (ti : Nat) (sz : Nat) (mo : Nat) (ms : Nat) (mr : Nat) (mk : Nat) (mt : Nat) (mv : Nat) (me : Nat) (fs : Nat → Int32) (km : Nat) (ln : Nat) (sp : Nat) (rs : Nat) (ws : Nat) (fv : Nat → Int32) (n : Nat) (N : Nat) (o : Nat) (cd : Nat) (wt : Nat) (ty : Nat → Nat) (pa : Nat → Nat) (pb : Nat → Nat) (vo : Nat → Nat) (nm : Int64) (f : Int32) (hC : Cok n N o cd wt) (hM : MR n N o cd wt ty pa pb vo nm fs) (hf : fK f) : Met l yX6_test wsX6_test ({ frames := 4, cells := 0, slots := 0, locals := 91 }) (va_Pc [.ref mo, .int f] (hk_In D g ti [(mo, .inr (6, [.ref ms, .ref mr, .ref mk, .int (nI km), .ref mt, .int (nI ln), .int (nI sp), .int (nI rs), .int (nI ws), .ref mv, .ref me])), (ms, .inl (g.2.1, 147, .inl fs)), (mv, .inl (g.2.1, 30, .inl fv))] sz)) (va_Qi (S := Nat → Int32) (fun r _ => isF (exB n o cd wt ty pa pb vo nm f) (2 ^ n) r) (fun u => hk_Out D (va_A [(mo, .inr (6, [.ref ms, .ref mr, .ref mk, .int (nI km), .ref mt, .int (nI ln), .int (nI sp), .int (nI rs), .int (nI ws), .ref mv, .ref me])), (ms, .inl (g.2.1, 147, .inl fs)), (mv, .inl (g.2.1, 30, .inl fv))] sz) (match u with | f' => [(mo, .inr (6, [.ref ms, .ref mr, .ref mk, .int (nI km), .ref mt, .int (nI ln), .int (nI sp), .int (nI rs), .int (nI ws), .ref mv, .ref me])), (ms, .inl (g.2.1, 147, .inl fs)), (mv, .inl (g.2.1, 30, .inl f'))])) (va_A [(mo, .inr (6, [.ref ms, .ref mr, .ref mk, .int (nI km), .ref mt, .int (nI ln), .int (nI sp), .int (nI rs), .int (nI ws), .ref mv, .ref me])), (ms, .inl (g.2.1, 147, .inl fs)), (mv, .inl (g.2.1, 30, .inl fv))] sz)) 0 0 (va_A [(mo, .inr (6, [.ref ms, .ref mr, .ref mk, .int (nI km), .ref mt, .int (nI ln), .int (nI sp), .int (nI rs), .int (nI ws), .ref mv, .ref me])), (ms, .inl (g.2.1, 147, .inl fs)), (mv, .inl (g.2.1, 30, .inl fv))] sz) := by
  refine Met.ofW (cc := cX6_test) (maxL := 3) (ret := (some .int)) (by decide) rfl ?_
  intro p e s m args below meth c s₁ Bd hml hv
  obtain ⟨rfl, hsz, hP, hD0, hE⟩ := hv
  have hx := Bd.exec
  have hb := Bd.bytes
  have hr := Bd.returns
  have hts := atoms_spec (ws := wsX6_test) Bd.pre
  have hown : s.vm.findClass RX6 = some m.cls := findClass_of_methodNamed Bd.named
  have hlocks := Bd.notSynchronized
  have hK := hE.1
  subst hsz
  have hD := hD0.self (sz := s.heap.size)
  generalize hAe : va_A [(mo, .inr (6, [.ref ms, .ref mr, .ref mk, .int (nI km), .ref mt, .int (nI ln), .int (nI sp), .int (nI rs), .int (nI ws), .ref mv, .ref me])), (ms, .inl (g.2.1, 147, .inl fs)), (mv, .inl (g.2.1, 30, .inl fv))] s.heap.size = A at hD hE ⊢
  have hA : ∀ q : Nat, s.heap.size ≤ q → A q := fun q h => by rw [← hAe]; exact Or.inr h
  have hS : va_S A s.heap s.heap [] := va_S.rf
  have hl := lv_entry ([.ref mo, .int f]) (n := 3) (Nat.le_of_ble_eq_true rfl)
  rw [lg_entry_eq]
  generalize (lg_sl ([.ref mo, .int f]) ++ List.replicate (3 - (lg_sl ([.ref mo, .int f])).length) Slot.unset).toArray = ls at hl ⊢
  have hl : lv_has ls 3 [(0, .ref mo), (1, .int f)] := hl
  refine lv_iconst (v := 0) hx hb dX6_test_0 (by decide) ?_
  refine lv_istore_n (lv' := [(2, .int 0), (0, .ref mo), (1, .int f)]) hx hb dX6_test_1 rfl hl (by decide) rfl (fun ls hl => ?_)
  have loop2 : ∀ (fuel : Nat) (i : Nat) (gv : Nat → Int32), (2 ^ n - i) < fuel → (i ≤ 2 ^ n) → (∀ k, k < i → exB n o cd wt ty pa pb vo nm f k = false) → ∀ (H : Heap) (locs : List Loc), va_P D vwCl [(mo, .inr (6, [.ref ms, .ref mr, .ref mk, .int (nI km), .ref mt, .int (nI ln), .int (nI sp), .int (nI rs), .int (nI ws), .ref mv, .ref me])), (ms, .inl (g.2.1, 147, .inl fs)), (mv, .inl (g.2.1, 30, .inl gv))] H → va_D A [(mo, .inr (6, [.ref ms, .ref mr, .ref mk, .int (nI km), .ref mt, .int (nI ln), .int (nI sp), .int (nI rs), .int (nI ws), .ref mv, .ref me])), (ms, .inl (g.2.1, 147, .inl fs)), (mv, .inl (g.2.1, 30, .inl gv))] → va_S A s.heap H locs → ∀ ls : Array Slot, lv_has ls 3 [(2, .int (nI i)), (0, .ref mo), (1, .int f)] → W p l e (headSpec wsX6_test ({ frames := 4, cells := 0, slots := 0, locals := 91 })).room s m ([.ref mo, .int f] : List Value).toArray below meth c H locs 0 0 (MQ below (va_Qi (S := Nat → Int32) (fun r _ => isF (exB n o cd wt ty pa pb vo nm f) (2 ^ n) r) (fun u => hk_Out D A (match u with | f' => [(mo, .inr (6, [.ref ms, .ref mr, .ref mk, .int (nI km), .ref mt, .int (nI ln), .int (nI sp), .int (nI rs), .int (nI ws), .ref mv, .ref me])), (ms, .inl (g.2.1, 147, .inl fs)), (mv, .inl (g.2.1, 30, .inl f'))])) A) ([.ref mo, .int f] : List Value).toArray s 0 0 A) (F0 m 2 ls []) := by
    intro fuel
    induction fuel with
    | zero => intro i gv hm; exact absurd hm (Nat.not_lt_zero _)
    | succ fuel ih_2 =>
      intro i gv hm_2 hi hno H locs hP hD hS ls hl
      refine lv_iload_n hx hb dX6_test_2 rfl (lv_at hl 0 rfl) ?_
      refine lv_aload_n hx hb dX6_test_3 rfl (lv_at hl 1 rfl) ?_
      refine hk_csi (va_runV (As := []) (rest := [.int (nI i)]) ⟨hx, hb, hml, hown, hts⟩ (c6_many l D g ti mo ms mr mk mt mv me fs km ln sp rs ws n N o cd wt ty pa pb vo nm hC hM) (cwV 0 hts gX6_test_X6_many rfl rfl rfl (by decide +kernel) ⟨Nat.le_of_ble_eq_true rfl, Nat.le_of_ble_eq_true rfl⟩) (hk_roV hE hP hS 6 rfl rfl [0, 1] rfl rfl) rfl rfl hl.1 rfl (lv_room (Nat.le_of_ble_eq_true rfl)) dX6_test_4 ⟨Nat.zero_le _, Nat.zero_le _⟩) (fun r_1 hr_2 => ?_)
      subst hr_2
      refine lv_icmp_ge (tgt := 27) hx hb dX6_test_7 (by decide) (fun c_3 => ?_) (fun c_3 => ?_)
      · have c_3h : nI (2 ^ n) ≤ nI i := c_3
        refine lv_bipush (v := (-104)) hx hb dX6_test_27 (by decide) ?_
        have hP9 := hP.sub (ws' := [(mo, .inr (6, [.ref ms, .ref mr, .ref mk, .int (nI km), .ref mt, .int (nI ln), .int (nI sp), .int (nI rs), .int (nI ws), .ref mv, .ref me])), (ms, .inl (g.2.1, 147, .inl fs)), (mv, .inl (g.2.1, 30, .inl gv))]) [0, 1, 2] rfl
        have hD9 := hD.sub (ws' := [(mo, .inr (6, [.ref ms, .ref mr, .ref mk, .int (nI km), .ref mt, .int (nI ln), .int (nI sp), .int (nI rs), .int (nI ws), .ref mv, .ref me])), (ms, .inl (g.2.1, 147, .inl fs)), (mv, .inl (g.2.1, 30, .inl gv))]) [0, 1, 2] (by decide) rfl
        exact W.iret (v := (-104)) hx hb hr (fun tt ht hW => ⟨⟨_, gv, rfl, Or.inr ⟨fun k hk => hno k (by have := (hk_ge (2 ^ n) c_3 (hi := by have := pw_le hC.2.1; omega) (hn := by have := hC.2.1; exact Nat.lt_of_le_of_lt (Nat.pow_le_pow_right (by decide) this) (by decide : 2 ^ 6 < 2 ^ 31))); omega), rfl⟩, by rw [ht]; exact hP9, hD9⟩, hS.F ht⟩) hS.2.2 dX6_test_29
      · have c_3h : ¬ nI (2 ^ n) ≤ nI i := c_3
        refine lv_aload_n hx hb dX6_test_10 rfl (lv_at hl 1 rfl) ?_
        refine lv_iload_n hx hb dX6_test_11 rfl (lv_at hl 0 rfl) ?_
        refine lv_iload_n hx hb dX6_test_12 rfl (lv_at hl 2 rfl) ?_
        refine hk_cmi (wr := []) (va_runV (As := [.int (nI i), .int f]) (rest := []) ⟨hx, hb, hml, hown, hts⟩ (c6_exposes l D g ti _ mo ms mr mk mt mv me fs km ln sp rs ws gv n N o cd wt ty pa pb vo nm i f hC hM (pw_64 hC.2.1 (hk_nge (2 ^ n) c_3 (hi := by have := pw_le hC.2.1; omega) (hn := by have := hC.2.1; exact Nat.lt_of_le_of_lt (Nat.pow_le_pow_right (by decide) this) (by decide : 2 ^ 6 < 2 ^ 31)))) hf) (cwV 2 hts gX6_test_X6_exposes rfl rfl rfl (by decide +kernel) ⟨Nat.le_of_ble_eq_true rfl, Nat.le_of_ble_eq_true rfl⟩) (hk_inV hE hP hD hS hA 6 rfl rfl [0, 1, 2] (by decide) rfl rfl) rfl rfl hl.1 rfl (lv_room (Nat.le_of_ble_eq_true rfl)) dX6_test_13 ⟨Nat.zero_le _, Nat.zero_le _⟩) hP hD hS hA [0, 1, 2] [] rfl rfl (by decide) (by decide) (fun r_4 tv H locs hr_5 hP hD hS => ?_)
        try dsimp only at hr_5
        have hP : va_P D vwCl [(mo, .inr (6, [.ref ms, .ref mr, .ref mk, .int (nI km), .ref mt, .int (nI ln), .int (nI sp), .int (nI rs), .int (nI ws), .ref mv, .ref me])), (ms, .inl (g.2.1, 147, .inl fs)), (mv, .inl (g.2.1, 30, .inl tv))] H := hP
        have hD : va_D A [(mo, .inr (6, [.ref ms, .ref mr, .ref mk, .int (nI km), .ref mt, .int (nI ln), .int (nI sp), .int (nI rs), .int (nI ws), .ref mv, .ref me])), (ms, .inl (g.2.1, 147, .inl fs)), (mv, .inl (g.2.1, 30, .inl tv))] := hD
        refine hk_ti (bI (exB n o cd wt ty pa pb vo nm f i)) hr_5 ?_
        refine lv_if_eq (tgt := 21) hx hb dX6_test_16 (by decide) (fun c_6 => ?_) (fun c_6 => ?_)
        · have c_6h : bI (exB n o cd wt ty pa pb vo nm f i) = (0 : Int32) := c_6
          refine lv_iinc (v := (nI (i + 1))) (lv' := [(2, .int (nI (i + 1))), (0, .ref mo), (1, .int f)]) hx hb dX6_test_21 hl (k := 0) rfl (nI_1 i) (by decide) rfl (fun ls hl => ?_)
          refine lv_goto (tgt := 2) hx hb dX6_test_24 (by decide) ?_
          have hlt : i < 2 ^ n := (hk_nge (2 ^ n) c_3 (hi := by have := pw_le hC.2.1; omega) (hn := by have := hC.2.1; exact Nat.lt_of_le_of_lt (Nat.pow_le_pow_right (by decide) this) (by decide : 2 ^ 6 < 2 ^ 31)))
          exact ih_2 (i + 1) tv (by omega) (by omega) (fun k hk => (Nat.lt_succ_iff_lt_or_eq.mp hk).elim (hno k) (fun e => e ▸ bI_0.mp c_6)) _ _ hP hD hS _ (lv_sub hl [0, 1, 2] rfl)
        · have c_6h : ¬ bI (exB n o cd wt ty pa pb vo nm f i) = (0 : Int32) := c_6
          refine lv_iload_n hx hb dX6_test_19 rfl (lv_at hl 0 rfl) ?_
          have hP9 := hP.sub (ws' := [(mo, .inr (6, [.ref ms, .ref mr, .ref mk, .int (nI km), .ref mt, .int (nI ln), .int (nI sp), .int (nI rs), .int (nI ws), .ref mv, .ref me])), (ms, .inl (g.2.1, 147, .inl fs)), (mv, .inl (g.2.1, 30, .inl tv))]) [0, 1, 2] rfl
          have hD9 := hD.sub (ws' := [(mo, .inr (6, [.ref ms, .ref mr, .ref mk, .int (nI km), .ref mt, .int (nI ln), .int (nI sp), .int (nI rs), .int (nI ws), .ref mv, .ref me])), (ms, .inl (g.2.1, 147, .inl fs)), (mv, .inl (g.2.1, 30, .inl tv))]) [0, 1, 2] (by decide) rfl
          exact W.iret (v := nI i) hx hb hr (fun tt ht hW => ⟨⟨_, tv, rfl, Or.inl ⟨i, (hk_nge (2 ^ n) c_3 (hi := by have := pw_le hC.2.1; omega) (hn := by have := hC.2.1; exact Nat.lt_of_le_of_lt (Nat.pow_le_pow_right (by decide) this) (by decide : 2 ^ 6 < 2 ^ 31))), bI_n0 c_6, hno, rfl⟩, by rw [ht]; exact hP9, hD9⟩, hS.F ht⟩) hS.2.2 dX6_test_20
  exact loop2 _ 0 fv (Nat.lt_succ_self _) (Nat.zero_le _) (fun _ h => absurd h (Nat.not_lt_zero _)) _ _ hP hD hS _ (lv_sub hl [0, 1, 2] rfl)
set_option maxHeartbeats 4000000 in
set_option maxRecDepth 100000 in
theorem c6_unsafe (l : Launch) (D : va_G) (g : hk_G) (ti : Nat) (sz : Nat) (mo : Nat) (ms : Nat) (mr : Nat) (mk : Nat) (mt : Nat) (mv : Nat) (me : Nat) (fs : Nat → Int32) (km : Nat) (ln : Nat) (sp : Nat) (rs : Nat) (ws : Nat) (fv : Nat → Int32) (n : Nat) (N : Nat) (o : Nat) (cd : Nat) (wt : Nat) (ty : Nat → Nat) (pa : Nat → Nat) (pb : Nat → Nat) (vo : Nat → Nat) (nm : Int64) (f : Int32) (hC : Cok n N o cd wt) (hM : MR n N o cd wt ty pa pb vo nm fs) (hf : fK f) : Met l yX6_unsafe wsX6_unsafe ({ frames := 4, cells := 0, slots := 0, locals := 93 }) (va_Pc [.ref mo, .int f] (hk_In D g ti [(mo, .inr (6, [.ref ms, .ref mr, .ref mk, .int (nI km), .ref mt, .int (nI ln), .int (nI sp), .int (nI rs), .int (nI ws), .ref mv, .ref me])), (ms, .inl (g.2.1, 147, .inl fs)), (mv, .inl (g.2.1, 30, .inl fv))] sz)) (va_Qi (S := Nat → Int32) (fun r _ => isF (unB n o cd wt ty pa pb vo nm f) (2 ^ n) r) (fun u => hk_Out D (va_A [(mo, .inr (6, [.ref ms, .ref mr, .ref mk, .int (nI km), .ref mt, .int (nI ln), .int (nI sp), .int (nI rs), .int (nI ws), .ref mv, .ref me])), (ms, .inl (g.2.1, 147, .inl fs)), (mv, .inl (g.2.1, 30, .inl fv))] sz) (match u with | f' => [(mo, .inr (6, [.ref ms, .ref mr, .ref mk, .int (nI km), .ref mt, .int (nI ln), .int (nI sp), .int (nI rs), .int (nI ws), .ref mv, .ref me])), (ms, .inl (g.2.1, 147, .inl fs)), (mv, .inl (g.2.1, 30, .inl f'))])) (va_A [(mo, .inr (6, [.ref ms, .ref mr, .ref mk, .int (nI km), .ref mt, .int (nI ln), .int (nI sp), .int (nI rs), .int (nI ws), .ref mv, .ref me])), (ms, .inl (g.2.1, 147, .inl fs)), (mv, .inl (g.2.1, 30, .inl fv))] sz)) 0 0 (va_A [(mo, .inr (6, [.ref ms, .ref mr, .ref mk, .int (nI km), .ref mt, .int (nI ln), .int (nI sp), .int (nI rs), .int (nI ws), .ref mv, .ref me])), (ms, .inl (g.2.1, 147, .inl fs)), (mv, .inl (g.2.1, 30, .inl fv))] sz) := by
  refine Met.ofW (cc := cX6_unsafe) (maxL := 3) (ret := (some .int)) (by decide) rfl ?_
  intro p e s m args below meth c s₁ Bd hml hv
  obtain ⟨rfl, hsz, hP, hD0, hE⟩ := hv
  have hx := Bd.exec
  have hb := Bd.bytes
  have hr := Bd.returns
  have hts := atoms_spec (ws := wsX6_unsafe) Bd.pre
  have hown : s.vm.findClass RX6 = some m.cls := findClass_of_methodNamed Bd.named
  have hlocks := Bd.notSynchronized
  have hK := hE.1
  subst hsz
  have hD := hD0.self (sz := s.heap.size)
  generalize hAe : va_A [(mo, .inr (6, [.ref ms, .ref mr, .ref mk, .int (nI km), .ref mt, .int (nI ln), .int (nI sp), .int (nI rs), .int (nI ws), .ref mv, .ref me])), (ms, .inl (g.2.1, 147, .inl fs)), (mv, .inl (g.2.1, 30, .inl fv))] s.heap.size = A at hD hE ⊢
  have hA : ∀ q : Nat, s.heap.size ≤ q → A q := fun q h => by rw [← hAe]; exact Or.inr h
  have hS : va_S A s.heap s.heap [] := va_S.rf
  have hl := lv_entry ([.ref mo, .int f]) (n := 3) (Nat.le_of_ble_eq_true rfl)
  rw [lg_entry_eq]
  generalize (lg_sl ([.ref mo, .int f]) ++ List.replicate (3 - (lg_sl ([.ref mo, .int f])).length) Slot.unset).toArray = ls at hl ⊢
  have hl : lv_has ls 3 [(0, .ref mo), (1, .int f)] := hl
  refine lv_iconst (v := 0) hx hb dX6_unsafe_0 (by decide) ?_
  refine lv_istore_n (lv' := [(2, .int 0), (0, .ref mo), (1, .int f)]) hx hb dX6_unsafe_1 rfl hl (by decide) rfl (fun ls hl => ?_)
  have loop2 : ∀ (fuel : Nat) (i : Nat) (gv : Nat → Int32), (2 ^ n - i) < fuel → (i ≤ 2 ^ n) → (∀ k, k < i → unB n o cd wt ty pa pb vo nm f k = false) → ∀ (H : Heap) (locs : List Loc), va_P D vwCl [(mo, .inr (6, [.ref ms, .ref mr, .ref mk, .int (nI km), .ref mt, .int (nI ln), .int (nI sp), .int (nI rs), .int (nI ws), .ref mv, .ref me])), (ms, .inl (g.2.1, 147, .inl fs)), (mv, .inl (g.2.1, 30, .inl gv))] H → va_D A [(mo, .inr (6, [.ref ms, .ref mr, .ref mk, .int (nI km), .ref mt, .int (nI ln), .int (nI sp), .int (nI rs), .int (nI ws), .ref mv, .ref me])), (ms, .inl (g.2.1, 147, .inl fs)), (mv, .inl (g.2.1, 30, .inl gv))] → va_S A s.heap H locs → ∀ ls : Array Slot, lv_has ls 3 [(2, .int (nI i)), (0, .ref mo), (1, .int f)] → W p l e (headSpec wsX6_unsafe ({ frames := 4, cells := 0, slots := 0, locals := 93 })).room s m ([.ref mo, .int f] : List Value).toArray below meth c H locs 0 0 (MQ below (va_Qi (S := Nat → Int32) (fun r _ => isF (unB n o cd wt ty pa pb vo nm f) (2 ^ n) r) (fun u => hk_Out D A (match u with | f' => [(mo, .inr (6, [.ref ms, .ref mr, .ref mk, .int (nI km), .ref mt, .int (nI ln), .int (nI sp), .int (nI rs), .int (nI ws), .ref mv, .ref me])), (ms, .inl (g.2.1, 147, .inl fs)), (mv, .inl (g.2.1, 30, .inl f'))])) A) ([.ref mo, .int f] : List Value).toArray s 0 0 A) (F0 m 2 ls []) := by
    intro fuel
    induction fuel with
    | zero => intro i gv hm; exact absurd hm (Nat.not_lt_zero _)
    | succ fuel ih_2 =>
      intro i gv hm_2 hi hno H locs hP hD hS ls hl
      refine lv_iload_n hx hb dX6_unsafe_2 rfl (lv_at hl 0 rfl) ?_
      refine lv_aload_n hx hb dX6_unsafe_3 rfl (lv_at hl 1 rfl) ?_
      refine hk_csi (va_runV (As := []) (rest := [.int (nI i)]) ⟨hx, hb, hml, hown, hts⟩ (c6_many l D g ti mo ms mr mk mt mv me fs km ln sp rs ws n N o cd wt ty pa pb vo nm hC hM) (cwV 0 hts gX6_unsafe_X6_many rfl rfl rfl (by decide +kernel) ⟨Nat.le_of_ble_eq_true rfl, Nat.le_of_ble_eq_true rfl⟩) (hk_roV hE hP hS 6 rfl rfl [0, 1] rfl rfl) rfl rfl hl.1 rfl (lv_room (Nat.le_of_ble_eq_true rfl)) dX6_unsafe_4 ⟨Nat.zero_le _, Nat.zero_le _⟩) (fun r_1 hr_2 => ?_)
      subst hr_2
      refine lv_icmp_ge (tgt := 27) hx hb dX6_unsafe_7 (by decide) (fun c_3 => ?_) (fun c_3 => ?_)
      · have c_3h : nI (2 ^ n) ≤ nI i := c_3
        refine lv_bipush (v := (-104)) hx hb dX6_unsafe_27 (by decide) ?_
        have hP9 := hP.sub (ws' := [(mo, .inr (6, [.ref ms, .ref mr, .ref mk, .int (nI km), .ref mt, .int (nI ln), .int (nI sp), .int (nI rs), .int (nI ws), .ref mv, .ref me])), (ms, .inl (g.2.1, 147, .inl fs)), (mv, .inl (g.2.1, 30, .inl gv))]) [0, 1, 2] rfl
        have hD9 := hD.sub (ws' := [(mo, .inr (6, [.ref ms, .ref mr, .ref mk, .int (nI km), .ref mt, .int (nI ln), .int (nI sp), .int (nI rs), .int (nI ws), .ref mv, .ref me])), (ms, .inl (g.2.1, 147, .inl fs)), (mv, .inl (g.2.1, 30, .inl gv))]) [0, 1, 2] (by decide) rfl
        exact W.iret (v := (-104)) hx hb hr (fun tt ht hW => ⟨⟨_, gv, rfl, Or.inr ⟨fun k hk => hno k (by have := (hk_ge (2 ^ n) c_3 (hi := by have := pw_le hC.2.1; omega) (hn := by have := hC.2.1; exact Nat.lt_of_le_of_lt (Nat.pow_le_pow_right (by decide) this) (by decide : 2 ^ 6 < 2 ^ 31))); omega), rfl⟩, by rw [ht]; exact hP9, hD9⟩, hS.F ht⟩) hS.2.2 dX6_unsafe_29
      · have c_3h : ¬ nI (2 ^ n) ≤ nI i := c_3
        refine lv_aload_n hx hb dX6_unsafe_10 rfl (lv_at hl 1 rfl) ?_
        refine lv_iload_n hx hb dX6_unsafe_11 rfl (lv_at hl 0 rfl) ?_
        refine lv_iload_n hx hb dX6_unsafe_12 rfl (lv_at hl 2 rfl) ?_
        refine hk_cmi (wr := []) (va_runV (As := [.int (nI i), .int f]) (rest := []) ⟨hx, hb, hml, hown, hts⟩ (c6_isUnsafe l D g ti _ mo ms mr mk mt mv me fs km ln sp rs ws gv n N o cd wt ty pa pb vo nm i f hC hM (pw_64 hC.2.1 (hk_nge (2 ^ n) c_3 (hi := by have := pw_le hC.2.1; omega) (hn := by have := hC.2.1; exact Nat.lt_of_le_of_lt (Nat.pow_le_pow_right (by decide) this) (by decide : 2 ^ 6 < 2 ^ 31)))) hf) (cwV 2 hts gX6_unsafe_X6_isUnsafe rfl rfl rfl (by decide +kernel) ⟨Nat.le_of_ble_eq_true rfl, Nat.le_of_ble_eq_true rfl⟩) (hk_inV hE hP hD hS hA 6 rfl rfl [0, 1, 2] (by decide) rfl rfl) rfl rfl hl.1 rfl (lv_room (Nat.le_of_ble_eq_true rfl)) dX6_unsafe_13 ⟨Nat.zero_le _, Nat.zero_le _⟩) hP hD hS hA [0, 1, 2] [] rfl rfl (by decide) (by decide) (fun r_4 tv H locs hr_5 hP hD hS => ?_)
        try dsimp only at hr_5
        have hP : va_P D vwCl [(mo, .inr (6, [.ref ms, .ref mr, .ref mk, .int (nI km), .ref mt, .int (nI ln), .int (nI sp), .int (nI rs), .int (nI ws), .ref mv, .ref me])), (ms, .inl (g.2.1, 147, .inl fs)), (mv, .inl (g.2.1, 30, .inl tv))] H := hP
        have hD : va_D A [(mo, .inr (6, [.ref ms, .ref mr, .ref mk, .int (nI km), .ref mt, .int (nI ln), .int (nI sp), .int (nI rs), .int (nI ws), .ref mv, .ref me])), (ms, .inl (g.2.1, 147, .inl fs)), (mv, .inl (g.2.1, 30, .inl tv))] := hD
        refine hk_ti (bI (unB n o cd wt ty pa pb vo nm f i)) hr_5 ?_
        refine lv_if_eq (tgt := 21) hx hb dX6_unsafe_16 (by decide) (fun c_6 => ?_) (fun c_6 => ?_)
        · have c_6h : bI (unB n o cd wt ty pa pb vo nm f i) = (0 : Int32) := c_6
          refine lv_iinc (v := (nI (i + 1))) (lv' := [(2, .int (nI (i + 1))), (0, .ref mo), (1, .int f)]) hx hb dX6_unsafe_21 hl (k := 0) rfl (nI_1 i) (by decide) rfl (fun ls hl => ?_)
          refine lv_goto (tgt := 2) hx hb dX6_unsafe_24 (by decide) ?_
          have hlt : i < 2 ^ n := (hk_nge (2 ^ n) c_3 (hi := by have := pw_le hC.2.1; omega) (hn := by have := hC.2.1; exact Nat.lt_of_le_of_lt (Nat.pow_le_pow_right (by decide) this) (by decide : 2 ^ 6 < 2 ^ 31)))
          exact ih_2 (i + 1) tv (by omega) (by omega) (fun k hk => (Nat.lt_succ_iff_lt_or_eq.mp hk).elim (hno k) (fun e => e ▸ bI_0.mp c_6)) _ _ hP hD hS _ (lv_sub hl [0, 1, 2] rfl)
        · have c_6h : ¬ bI (unB n o cd wt ty pa pb vo nm f i) = (0 : Int32) := c_6
          refine lv_iload_n hx hb dX6_unsafe_19 rfl (lv_at hl 0 rfl) ?_
          have hP9 := hP.sub (ws' := [(mo, .inr (6, [.ref ms, .ref mr, .ref mk, .int (nI km), .ref mt, .int (nI ln), .int (nI sp), .int (nI rs), .int (nI ws), .ref mv, .ref me])), (ms, .inl (g.2.1, 147, .inl fs)), (mv, .inl (g.2.1, 30, .inl tv))]) [0, 1, 2] rfl
          have hD9 := hD.sub (ws' := [(mo, .inr (6, [.ref ms, .ref mr, .ref mk, .int (nI km), .ref mt, .int (nI ln), .int (nI sp), .int (nI rs), .int (nI ws), .ref mv, .ref me])), (ms, .inl (g.2.1, 147, .inl fs)), (mv, .inl (g.2.1, 30, .inl tv))]) [0, 1, 2] (by decide) rfl
          exact W.iret (v := nI i) hx hb hr (fun tt ht hW => ⟨⟨_, tv, rfl, Or.inl ⟨i, (hk_nge (2 ^ n) c_3 (hi := by have := pw_le hC.2.1; omega) (hn := by have := hC.2.1; exact Nat.lt_of_le_of_lt (Nat.pow_le_pow_right (by decide) this) (by decide : 2 ^ 6 < 2 ^ 31))), bI_n0 c_6, hno, rfl⟩, by rw [ht]; exact hP9, hD9⟩, hS.F ht⟩) hS.2.2 dX6_unsafe_20
  exact loop2 _ 0 fv (Nat.lt_succ_self _) (Nat.zero_le _) (fun _ h => absurd h (Nat.not_lt_zero _)) _ _ hP hD hS _ (lv_sub hl [0, 1, 2] rfl)
theorem fK_hn {N : Nat} {f : Int32} (h : hn (2 * N) f = true) (hN : N ≤ 30) : fK f := by
  obtain ⟨j, hj, e⟩ := hn_ex h (by omega)
  exact Or.inr ⟨j, by omega, e⟩
set_option maxHeartbeats 4000000 in
set_option maxRecDepth 100000 in
theorem c6_outputWord (l : Launch) (D : va_G) (g : hk_G) (ti : Nat) (sz : Nat) (mo : Nat) (ms : Nat) (mr : Nat) (mk : Nat) (mt : Nat) (mv : Nat) (me : Nat) (fs : Nat → Int32) (km : Nat) (ln : Nat) (sp : Nat) (rs : Nat) (ws : Nat) (fv : Nat → Int32) (n : Nat) (N : Nat) (o : Nat) (cd : Nat) (wt : Nat) (ty : Nat → Nat) (pa : Nat → Nat) (pb : Nat → Nat) (vo : Nat → Nat) (nm : Int64) (w : Nat) (f : Int32) (hC : Cok n N o cd wt) (hM : MR n N o cd wt ty pa pb vo nm fs) (hw2 : w < 2 ^ n) (hw : w < 64) (hf : f = -1 ∨ hn (2 * N) f = true) : Met l yX6_outputWord wsX6_outputWord ({ frames := 3, cells := 0, slots := 0, locals := 69 }) (va_Pc [.ref mo, .int (nI w), .int f] (hk_In D g ti [(mo, .inr (6, [.ref ms, .ref mr, .ref mk, .int (nI km), .ref mt, .int (nI ln), .int (nI sp), .int (nI rs), .int (nI ws), .ref mv, .ref me])), (ms, .inl (g.2.1, 147, .inl fs)), (mv, .inl (g.2.1, 30, .inl fv))] sz)) (va_Qi (S := Nat → Int32) (fun r _ => r = nI (wd (oB n ty pa pb vo f w) o)) (fun u => hk_Out D (va_A [(mo, .inr (6, [.ref ms, .ref mr, .ref mk, .int (nI km), .ref mt, .int (nI ln), .int (nI sp), .int (nI rs), .int (nI ws), .ref mv, .ref me])), (ms, .inl (g.2.1, 147, .inl fs)), (mv, .inl (g.2.1, 30, .inl fv))] sz) (match u with | f' => [(mo, .inr (6, [.ref ms, .ref mr, .ref mk, .int (nI km), .ref mt, .int (nI ln), .int (nI sp), .int (nI rs), .int (nI ws), .ref mv, .ref me])), (ms, .inl (g.2.1, 147, .inl fs)), (mv, .inl (g.2.1, 30, .inl f'))])) (va_A [(mo, .inr (6, [.ref ms, .ref mr, .ref mk, .int (nI km), .ref mt, .int (nI ln), .int (nI sp), .int (nI rs), .int (nI ws), .ref mv, .ref me])), (ms, .inl (g.2.1, 147, .inl fs)), (mv, .inl (g.2.1, 30, .inl fv))] sz)) 0 0 (va_A [(mo, .inr (6, [.ref ms, .ref mr, .ref mk, .int (nI km), .ref mt, .int (nI ln), .int (nI sp), .int (nI rs), .int (nI ws), .ref mv, .ref me])), (ms, .inl (g.2.1, 147, .inl fs)), (mv, .inl (g.2.1, 30, .inl fv))] sz) := by
  refine Met.ofW (cc := cX6_outputWord) (maxL := 3) (ret := (some .int)) (by decide) rfl ?_
  intro p e s m args below meth c s₁ Bd hml hv
  obtain ⟨rfl, hsz, hP, hD0, hE⟩ := hv
  have hx := Bd.exec
  have hb := Bd.bytes
  have hr := Bd.returns
  have hts := atoms_spec (ws := wsX6_outputWord) Bd.pre
  have hown : s.vm.findClass RX6 = some m.cls := findClass_of_methodNamed Bd.named
  have hlocks := Bd.notSynchronized
  have hK := hE.1
  subst hsz
  have hD := hD0.self (sz := s.heap.size)
  generalize hAe : va_A [(mo, .inr (6, [.ref ms, .ref mr, .ref mk, .int (nI km), .ref mt, .int (nI ln), .int (nI sp), .int (nI rs), .int (nI ws), .ref mv, .ref me])), (ms, .inl (g.2.1, 147, .inl fs)), (mv, .inl (g.2.1, 30, .inl fv))] s.heap.size = A at hD hE ⊢
  have hA : ∀ q : Nat, s.heap.size ≤ q → A q := fun q h => by rw [← hAe]; exact Or.inr h
  have hS : va_S A s.heap s.heap [] := va_S.rf
  have hl := lv_entry ([.ref mo, .int (nI w), .int f]) (n := 3) (Nat.le_of_ble_eq_true rfl)
  rw [lg_entry_eq]
  generalize (lg_sl ([.ref mo, .int (nI w), .int f]) ++ List.replicate (3 - (lg_sl ([.ref mo, .int (nI w), .int f])).length) Slot.unset).toArray = ls at hl ⊢
  have hl : lv_has ls 3 [(0, .ref mo), (1, .int (nI w)), (2, .int f)] := hl
  refine lv_aload_n hx hb dX6_outputWord_0 rfl (lv_at hl 0 rfl) ?_
  refine lv_iload_n hx hb dX6_outputWord_1 rfl (lv_at hl 1 rfl) ?_
  refine hk_csi (va_runV (As := [.int (nI w)]) (rest := []) ⟨hx, hb, hml, hown, hts⟩ (c6_isWord l D g ti mo ms mr mk mt mv me fs km ln sp rs ws n N o cd wt ty pa pb vo nm (nI w) hC hM) (cwV 1 hts gX6_outputWord_X6_isWord rfl rfl rfl (by decide +kernel) ⟨Nat.le_of_ble_eq_true rfl, Nat.le_of_ble_eq_true rfl⟩) (hk_roV hE hP hS 6 rfl rfl [0, 1] rfl rfl) rfl rfl hl.1 rfl (lv_room (Nat.le_of_ble_eq_true rfl)) dX6_outputWord_2 ⟨Nat.zero_le _, Nat.zero_le _⟩) (fun r_1 hr_2 => ?_)
  subst hr_2
  refine lv_if_eq (tgt := 30) hx hb dX6_outputWord_5 (by decide) (fun c_3 => ?_) (fun c_3 => ?_)
  · have c_3h : (bI (hn (2 ^ n) (nI w))) = (0 : Int32) := c_3
    exact absurd (bI_0.mp c_3) (by rw [hn_t hw2 (by have := hC.2.1; exact Nat.lt_of_le_of_lt (Nat.pow_le_pow_right (by decide) this) (by decide : 2 ^ 6 < 2 ^ 31))]; decide)
  · have c_3h : ¬ (bI (hn (2 ^ n) (nI w))) = (0 : Int32) := c_3
    refine lv_iload_n hx hb dX6_outputWord_8 rfl (lv_at hl 2 rfl) ?_
    refine lv_iconst (v := (-1)) hx hb dX6_outputWord_9 (by decide) ?_
    refine lv_icmp_eq (tgt := 21) hx hb dX6_outputWord_10 (by decide) (fun c_4 => ?_) (fun c_4 => ?_)
    · have c_4h : f = (-1 : Int32) := c_4
      refine lv_aload_n hx hb dX6_outputWord_21 rfl (lv_at hl 0 rfl) ?_
      refine lv_iload_n hx hb dX6_outputWord_22 rfl (lv_at hl 1 rfl) ?_
      refine lv_iload_n hx hb dX6_outputWord_23 rfl (lv_at hl 2 rfl) ?_
      refine hk_cmi (wr := []) (va_runV (As := [.int (nI w), .int f]) (rest := []) ⟨hx, hb, hml, hown, hts⟩ (c6_told l D g ti _ mo ms mr mk mt mv me fs km ln sp rs ws fv n N o cd wt ty pa pb vo nm w f hC hM hw (hf.elim Or.inl (fun q => fK_hn q (by have := hC.2.2.2.1; have := hC.2.1; omega)))) (cwV 2 hts gX6_outputWord_X6_told rfl rfl rfl (by decide +kernel) ⟨Nat.le_of_ble_eq_true rfl, Nat.le_of_ble_eq_true rfl⟩) (hk_inV hE hP hD hS hA 6 rfl rfl [0, 1, 2] (by decide) rfl rfl) rfl rfl hl.1 rfl (lv_room (Nat.le_of_ble_eq_true rfl)) dX6_outputWord_24 ⟨Nat.zero_le _, Nat.zero_le _⟩) hP hD hS hA [0, 1, 2] [] rfl rfl (by decide) (by decide) (fun r_5 tv H locs hr_6 hP hD hS => ?_)
      try dsimp only at hr_6
      have hP : va_P D vwCl [(mo, .inr (6, [.ref ms, .ref mr, .ref mk, .int (nI km), .ref mt, .int (nI ln), .int (nI sp), .int (nI rs), .int (nI ws), .ref mv, .ref me])), (ms, .inl (g.2.1, 147, .inl fs)), (mv, .inl (g.2.1, 30, .inl tv))] H := hP
      have hD : va_D A [(mo, .inr (6, [.ref ms, .ref mr, .ref mk, .int (nI km), .ref mt, .int (nI ln), .int (nI sp), .int (nI rs), .int (nI ws), .ref mv, .ref me])), (ms, .inl (g.2.1, 147, .inl fs)), (mv, .inl (g.2.1, 30, .inl tv))] := hD
      refine hk_ti (nI (wd (oB n ty pa pb vo f w) o)) hr_6 ?_
      refine lv_goto (tgt := 32) hx hb dX6_outputWord_27 (by decide) ?_
      have hP9 := hP.sub (ws' := [(mo, .inr (6, [.ref ms, .ref mr, .ref mk, .int (nI km), .ref mt, .int (nI ln), .int (nI sp), .int (nI rs), .int (nI ws), .ref mv, .ref me])), (ms, .inl (g.2.1, 147, .inl fs)), (mv, .inl (g.2.1, 30, .inl tv))]) [0, 1, 2] rfl
      have hD9 := hD.sub (ws' := [(mo, .inr (6, [.ref ms, .ref mr, .ref mk, .int (nI km), .ref mt, .int (nI ln), .int (nI sp), .int (nI rs), .int (nI ws), .ref mv, .ref me])), (ms, .inl (g.2.1, 147, .inl fs)), (mv, .inl (g.2.1, 30, .inl tv))]) [0, 1, 2] (by decide) rfl
      exact W.iret (v := nI (wd (oB n ty pa pb vo f w) o)) hx hb hr (fun tt ht hW => ⟨⟨_, tv, rfl, rfl, by rw [ht]; exact hP9, hD9⟩, hS.F ht⟩) hS.2.2 dX6_outputWord_32
    · have c_4h : ¬ f = (-1 : Int32) := c_4
      refine lv_aload_n hx hb dX6_outputWord_13 rfl (lv_at hl 0 rfl) ?_
      refine lv_iload_n hx hb dX6_outputWord_14 rfl (lv_at hl 2 rfl) ?_
      refine hk_csi (va_runV (As := [.int f]) (rest := []) ⟨hx, hb, hml, hown, hts⟩ (c6_isFault l D g ti mo ms mr mk mt mv me fs km ln sp rs ws n N o cd wt ty pa pb vo nm f hC hM) (cwV 1 hts gX6_outputWord_X6_isFault rfl rfl rfl (by decide +kernel) ⟨Nat.le_of_ble_eq_true rfl, Nat.le_of_ble_eq_true rfl⟩) (hk_roV hE hP hS 6 rfl rfl [0, 1] rfl rfl) rfl rfl hl.1 rfl (lv_room (Nat.le_of_ble_eq_true rfl)) dX6_outputWord_15 ⟨Nat.zero_le _, Nat.zero_le _⟩) (fun r_7 hr_8 => ?_)
      subst hr_8
      refine lv_if_eq (tgt := 30) hx hb dX6_outputWord_18 (by decide) (fun c_9 => ?_) (fun c_9 => ?_)
      · have c_9h : (bI (hn (2 * N) f)) = (0 : Int32) := c_9
        exact absurd (hf.resolve_left c_4) (by rw [bI_0.mp c_9]; decide)
      · have c_9h : ¬ (bI (hn (2 * N) f)) = (0 : Int32) := c_9
        refine lv_aload_n hx hb dX6_outputWord_21 rfl (lv_at hl 0 rfl) ?_
        refine lv_iload_n hx hb dX6_outputWord_22 rfl (lv_at hl 1 rfl) ?_
        refine lv_iload_n hx hb dX6_outputWord_23 rfl (lv_at hl 2 rfl) ?_
        refine hk_cmi (wr := []) (va_runV (As := [.int (nI w), .int f]) (rest := []) ⟨hx, hb, hml, hown, hts⟩ (c6_told l D g ti _ mo ms mr mk mt mv me fs km ln sp rs ws fv n N o cd wt ty pa pb vo nm w f hC hM hw (hf.elim Or.inl (fun q => fK_hn q (by have := hC.2.2.2.1; have := hC.2.1; omega)))) (cwV 2 hts gX6_outputWord_X6_told rfl rfl rfl (by decide +kernel) ⟨Nat.le_of_ble_eq_true rfl, Nat.le_of_ble_eq_true rfl⟩) (hk_inV hE hP hD hS hA 6 rfl rfl [0, 1, 2] (by decide) rfl rfl) rfl rfl hl.1 rfl (lv_room (Nat.le_of_ble_eq_true rfl)) dX6_outputWord_24 ⟨Nat.zero_le _, Nat.zero_le _⟩) hP hD hS hA [0, 1, 2] [] rfl rfl (by decide) (by decide) (fun r_10 tv H locs hr_11 hP hD hS => ?_)
        try dsimp only at hr_11
        have hP : va_P D vwCl [(mo, .inr (6, [.ref ms, .ref mr, .ref mk, .int (nI km), .ref mt, .int (nI ln), .int (nI sp), .int (nI rs), .int (nI ws), .ref mv, .ref me])), (ms, .inl (g.2.1, 147, .inl fs)), (mv, .inl (g.2.1, 30, .inl tv))] H := hP
        have hD : va_D A [(mo, .inr (6, [.ref ms, .ref mr, .ref mk, .int (nI km), .ref mt, .int (nI ln), .int (nI sp), .int (nI rs), .int (nI ws), .ref mv, .ref me])), (ms, .inl (g.2.1, 147, .inl fs)), (mv, .inl (g.2.1, 30, .inl tv))] := hD
        refine hk_ti (nI (wd (oB n ty pa pb vo f w) o)) hr_11 ?_
        refine lv_goto (tgt := 32) hx hb dX6_outputWord_27 (by decide) ?_
        have hP9 := hP.sub (ws' := [(mo, .inr (6, [.ref ms, .ref mr, .ref mk, .int (nI km), .ref mt, .int (nI ln), .int (nI sp), .int (nI rs), .int (nI ws), .ref mv, .ref me])), (ms, .inl (g.2.1, 147, .inl fs)), (mv, .inl (g.2.1, 30, .inl tv))]) [0, 1, 2] rfl
        have hD9 := hD.sub (ws' := [(mo, .inr (6, [.ref ms, .ref mr, .ref mk, .int (nI km), .ref mt, .int (nI ln), .int (nI sp), .int (nI rs), .int (nI ws), .ref mv, .ref me])), (ms, .inl (g.2.1, 147, .inl fs)), (mv, .inl (g.2.1, 30, .inl tv))]) [0, 1, 2] (by decide) rfl
        exact W.iret (v := nI (wd (oB n ty pa pb vo f w) o)) hx hb hr (fun tt ht hW => ⟨⟨_, tv, rfl, rfl, by rw [ht]; exact hP9, hD9⟩, hS.F ht⟩) hS.2.2 dX6_outputWord_32
set_option maxHeartbeats 4000000 in
set_option maxRecDepth 100000 in
theorem c6_outputWord_no (l : Launch) (D : va_G) (g : hk_G) (ti : Nat) (mo : Nat) (ms : Nat) (mr : Nat) (mk : Nat) (mt : Nat) (mv : Nat) (me : Nat) (fs : Nat → Int32) (km : Nat) (ln : Nat) (sp : Nat) (rs : Nat) (ws : Nat) (n : Nat) (N : Nat) (o : Nat) (cd : Nat) (wt : Nat) (ty : Nat → Nat) (pa : Nat → Nat) (pb : Nat → Nat) (vo : Nat → Nat) (nm : Int64) (v : Int32) (f : Int32) (hC : Cok n N o cd wt) (hM : MR n N o cd wt ty pa pb vo nm fs) (hv : hn (2 ^ n) v = false ∨ (¬ f = -1 ∧ hn (2 * N) f = false)) : Met l yX6_outputWord wsX6_outputWord ({ frames := 2, cells := 0, slots := 0, locals := 46 }) (va_Pc [.ref mo, .int v, .int f] (hk_Ro D g ti [(mo, .inr (6, [.ref ms, .ref mr, .ref mk, .int (nI km), .ref mt, .int (nI ln), .int (nI sp), .int (nI rs), .int (nI ws), .ref mv, .ref me])), (ms, .inl (g.2.1, 147, .inl fs))])) (vp_Si (fun r => r = -101)) 0 0 (fun _ => False) := by
  refine Met.ofW (cc := cX6_outputWord) (maxL := 3) (ret := (some .int)) (by decide) rfl ?_
  intro p e s m args below meth c s₁ Bd hml hv
  obtain ⟨rfl, hP, hE⟩ := hv
  have hx := Bd.exec
  have hb := Bd.bytes
  have hr := Bd.returns
  have hts := atoms_spec (ws := wsX6_outputWord) Bd.pre
  have hown : s.vm.findClass RX6 = some m.cls := findClass_of_methodNamed Bd.named
  have hlocks := Bd.notSynchronized
  have hK := hE.1
  have hS : va_S (fun _ => False) s.heap s.heap [] := va_S.rf
  have hl := lv_entry ([.ref mo, .int v, .int f]) (n := 3) (Nat.le_of_ble_eq_true rfl)
  rw [lg_entry_eq]
  generalize (lg_sl ([.ref mo, .int v, .int f]) ++ List.replicate (3 - (lg_sl ([.ref mo, .int v, .int f])).length) Slot.unset).toArray = ls at hl ⊢
  have hl : lv_has ls 3 [(0, .ref mo), (1, .int v), (2, .int f)] := hl
  refine lv_aload_n hx hb dX6_outputWord_0 rfl (lv_at hl 0 rfl) ?_
  refine lv_iload_n hx hb dX6_outputWord_1 rfl (lv_at hl 1 rfl) ?_
  refine hk_csi (va_runV (As := [.int v]) (rest := []) ⟨hx, hb, hml, hown, hts⟩ (c6_isWord l D g ti mo ms mr mk mt mv me fs km ln sp rs ws n N o cd wt ty pa pb vo nm v hC hM) (cwV 1 hts gX6_outputWord_X6_isWord rfl rfl rfl (by decide +kernel) ⟨Nat.le_of_ble_eq_true rfl, Nat.le_of_ble_eq_true rfl⟩) (hk_roV hE hP hS 6 rfl rfl [0, 1] rfl rfl) rfl rfl hl.1 rfl (lv_room (Nat.le_of_ble_eq_true rfl)) dX6_outputWord_2 ⟨Nat.zero_le _, Nat.zero_le _⟩) (fun r_1 hr_2 => ?_)
  subst hr_2
  refine lv_if_eq (tgt := 30) hx hb dX6_outputWord_5 (by decide) (fun c_3 => ?_) (fun c_3 => ?_)
  · have c_3h : (bI (hn (2 ^ n) v)) = (0 : Int32) := c_3
    refine lv_bipush (v := (-101)) hx hb dX6_outputWord_30 (by decide) ?_
    exact W.iret (v := (-101)) hx hb hr (fun tt ht hW => ⟨_, rfl, rfl, ht⟩) (fun _ h => by cases h) dX6_outputWord_32
  · have c_3h : ¬ (bI (hn (2 ^ n) v)) = (0 : Int32) := c_3
    refine lv_iload_n hx hb dX6_outputWord_8 rfl (lv_at hl 2 rfl) ?_
    refine lv_iconst (v := (-1)) hx hb dX6_outputWord_9 (by decide) ?_
    refine lv_icmp_eq (tgt := 21) hx hb dX6_outputWord_10 (by decide) (fun c_4 => ?_) (fun c_4 => ?_)
    · have c_4h : f = (-1 : Int32) := c_4
      exact absurd c_4 (hv.resolve_left (by rw [bI_n0 c_3]; decide)).1
    · have c_4h : ¬ f = (-1 : Int32) := c_4
      refine lv_aload_n hx hb dX6_outputWord_13 rfl (lv_at hl 0 rfl) ?_
      refine lv_iload_n hx hb dX6_outputWord_14 rfl (lv_at hl 2 rfl) ?_
      refine hk_csi (va_runV (As := [.int f]) (rest := []) ⟨hx, hb, hml, hown, hts⟩ (c6_isFault l D g ti mo ms mr mk mt mv me fs km ln sp rs ws n N o cd wt ty pa pb vo nm f hC hM) (cwV 1 hts gX6_outputWord_X6_isFault rfl rfl rfl (by decide +kernel) ⟨Nat.le_of_ble_eq_true rfl, Nat.le_of_ble_eq_true rfl⟩) (hk_roV hE hP hS 6 rfl rfl [0, 1] rfl rfl) rfl rfl hl.1 rfl (lv_room (Nat.le_of_ble_eq_true rfl)) dX6_outputWord_15 ⟨Nat.zero_le _, Nat.zero_le _⟩) (fun r_5 hr_6 => ?_)
      subst hr_6
      refine lv_if_eq (tgt := 30) hx hb dX6_outputWord_18 (by decide) (fun c_7 => ?_) (fun c_7 => ?_)
      · have c_7h : (bI (hn (2 * N) f)) = (0 : Int32) := c_7
        refine lv_bipush (v := (-101)) hx hb dX6_outputWord_30 (by decide) ?_
        exact W.iret (v := (-101)) hx hb hr (fun tt ht hW => ⟨_, rfl, rfl, ht⟩) (fun _ h => by cases h) dX6_outputWord_32
      · have c_7h : ¬ (bI (hn (2 * N) f)) = (0 : Int32) := c_7
        exact absurd (bI_0.mpr (hv.resolve_left (by rw [bI_n0 c_3]; decide)).2) c_7
set_option maxHeartbeats 4000000 in
set_option maxRecDepth 100000 in
theorem c6_isCodeWord (l : Launch) (D : va_G) (g : hk_G) (ti : Nat) (mo : Nat) (ms : Nat) (mr : Nat) (mk : Nat) (mt : Nat) (mv : Nat) (me : Nat) (fs : Nat → Int32) (km : Nat) (ln : Nat) (sp : Nat) (rs : Nat) (ws : Nat) (n : Nat) (N : Nat) (o : Nat) (cd : Nat) (wt : Nat) (ty : Nat → Nat) (pa : Nat → Nat) (pb : Nat → Nat) (vo : Nat → Nat) (nm : Int64) (x1 : Nat) (hC : Cok n N o cd wt) (hM : MR n N o cd wt ty pa pb vo nm fs) (hx1 : x1 < 2 ^ o) : Met l yX6_isCodeWord wsX6_isCodeWord ({ frames := 2, cells := 0, slots := 0, locals := 47 }) (va_Pc [.ref mo, .int (nI x1)] (hk_Ro D g ti [(mo, .inr (6, [.ref ms, .ref mr, .ref mk, .int (nI km), .ref mt, .int (nI ln), .int (nI sp), .int (nI rs), .int (nI ws), .ref mv, .ref me])), (ms, .inl (g.2.1, 147, .inl fs))])) (vp_Si (fun r => r = bI (ic cd o wt (fun k => x1.testBit k)))) 0 0 (fun _ => False) := by
  refine Met.ofW (cc := cX6_isCodeWord) (maxL := 2) (ret := (some .int)) (by decide) rfl ?_
  intro p e s m args below meth c s₁ Bd hml hv
  obtain ⟨rfl, hP, hE⟩ := hv
  have hx := Bd.exec
  have hb := Bd.bytes
  have hr := Bd.returns
  have hts := atoms_spec (ws := wsX6_isCodeWord) Bd.pre
  have hown : s.vm.findClass RX6 = some m.cls := findClass_of_methodNamed Bd.named
  have hlocks := Bd.notSynchronized
  have hK := hE.1
  have hi6 : ∀ w ∈ wsX60, w ∈ wsX6_isCodeWord := fun w h => List.mem_cons_of_mem _ (List.mem_append_right _ h)
  have hS : va_S (fun _ => False) s.heap s.heap [] := va_S.rf
  have hl := lv_entry ([.ref mo, .int (nI x1)]) (n := 2) (Nat.le_of_ble_eq_true rfl)
  rw [lg_entry_eq]
  generalize (lg_sl ([.ref mo, .int (nI x1)]) ++ List.replicate (2 - (lg_sl ([.ref mo, .int (nI x1)])).length) Slot.unset).toArray = ls at hl ⊢
  have hl : lv_has ls 2 [(0, .ref mo), (1, .int (nI x1))] := hl
  refine lv_iload_n hx hb dX6_isCodeWord_0 rfl (lv_at hl 1 rfl) ?_
  refine lv_i2l hx hb dX6_isCodeWord_1 rfl ?_
  refine lv_lconst (v := 0) hx hb dX6_isCodeWord_2 (by decide) ?_
  refine lv_iconst (v := 1) hx hb dX6_isCodeWord_3 (by decide) ?_
  refine lv_aload_n hx hb dX6_isCodeWord_4 rfl (lv_at hl 0 rfl) ?_
  refine va_get (D := D) (ci := 6) (v := .ref ms) (C := RX6) (T := TX6) (N := 11) hx hb hts hi6 hown hK hP 0 rfl rfl 0 (by decide) (hts (.fieldLink RX6 7 "SelfCheckingCircuitModel" "s" "[I") (by decide +kernel)) (fun _ h9 => h9) rfl dX6_isCodeWord_5 ?_
  refine lv_bipush (v := 74) hx hb dX6_isCodeWord_8 (by decide) ?_
  refine va_iald hx hb hK hP 1 1 rfl rfl (by unfold vp_in; decide) dX6_isCodeWord_10 ?_
  refine hk_ti (fs 74) (congrArg fs (by decide)) ?_
  refine hk_ti (nI o) (hM.1.2.2.1) ?_
  refine lv_ishl hx hb dX6_isCodeWord_11 ?_
  refine hk_ti (nI (2 ^ o)) (hn_pw o (by have := hC.2.2.2.2.1; omega)) ?_
  refine lv_iconst (v := 1) hx hb dX6_isCodeWord_12 (by decide) ?_
  refine lv_isub hx hb dX6_isCodeWord_13 ?_
  refine lv_i2l hx hb dX6_isCodeWord_14 rfl ?_
  refine hk_csi (va_runS (As := [.long ((nI x1).toInt64), .long 0, .long ((nI (2 ^ o) - (1 : Int32)).toInt64)]) (rest := []) ⟨hx, hb, hml, hown, hts⟩ (c6_in l D g ti ((nI x1).toInt64) 0 ((nI (2 ^ o) - (1 : Int32)).toInt64) ) (va_cwS 3 hts gX6_isCodeWord_X6_in rfl rfl rfl (by decide +kernel) ⟨Nat.le_of_ble_eq_true rfl, Nat.le_of_ble_eq_true rfl⟩) (hk_roS hE hP hS [] rfl) rfl rfl hl.1 rfl (lv_room (Nat.le_of_ble_eq_true rfl)) dX6_isCodeWord_15 ⟨Nat.zero_le _, Nat.zero_le _⟩) (fun r_1 hr_2 => ?_)
  subst hr_2
  refine hk_ti (bI (hn (2 ^ o) (nI x1))) (by rw [inL_hn (hi_N (by have := hC.2.2.2.2.1; exact Nat.lt_of_le_of_lt (Nat.pow_le_pow_right (by decide) this) (by decide : 2 ^ 6 < 2 ^ 30))) (by have := hC.2.2.2.2.1; exact Nat.lt_of_le_of_lt (Nat.pow_le_pow_right (by decide) this) (by decide : 2 ^ 6 < 2 ^ 31))]) ?_
  refine lv_if_ne (tgt := 24) hx hb dX6_isCodeWord_18 (by decide) (fun c_3 => ?_) (fun c_3 => ?_)
  · have c_3h : ¬ bI (hn (2 ^ o) (nI x1)) = (0 : Int32) := c_3
    refine lv_aload_n hx hb dX6_isCodeWord_24 rfl (lv_at hl 0 rfl) ?_
    refine lv_iload_n hx hb dX6_isCodeWord_25 rfl (lv_at hl 1 rfl) ?_
    refine hk_csi (va_runV (As := [.int (nI x1)]) (rest := []) ⟨hx, hb, hml, hown, hts⟩ (c6_isCoded l D g ti mo ms mr mk mt mv me fs km ln sp rs ws n N o cd wt ty pa pb vo nm x1 hC hM hx1) (cwV 1 hts gX6_isCodeWord_X6_isCoded rfl rfl rfl (by decide +kernel) ⟨Nat.le_of_ble_eq_true rfl, Nat.le_of_ble_eq_true rfl⟩) (hk_roV hE hP hS 6 rfl rfl [0, 1] rfl rfl) rfl rfl hl.1 rfl (lv_room (Nat.le_of_ble_eq_true rfl)) dX6_isCodeWord_26 ⟨Nat.zero_le _, Nat.zero_le _⟩) (fun r_4 hr_5 => ?_)
    subst hr_5
    refine lv_if_eq (tgt := 36) hx hb dX6_isCodeWord_29 (by decide) (fun c_6 => ?_) (fun c_6 => ?_)
    · have c_6h : (bI (ic cd o wt (fun k => x1.testBit k))) = (0 : Int32) := c_6
      refine lv_iconst (v := 0) hx hb dX6_isCodeWord_36 (by decide) ?_
      exact W.iret (v := 0) hx hb hr (fun tt ht hW => ⟨_, rfl, by rw [bI_0.mp c_6]; rfl, ht⟩) (fun _ h => by cases h) dX6_isCodeWord_37
    · have c_6h : ¬ (bI (ic cd o wt (fun k => x1.testBit k))) = (0 : Int32) := c_6
      refine lv_iconst (v := 1) hx hb dX6_isCodeWord_32 (by decide) ?_
      refine lv_goto (tgt := 37) hx hb dX6_isCodeWord_33 (by decide) ?_
      exact W.iret (v := 1) hx hb hr (fun tt ht hW => ⟨_, rfl, by rw [bI_n0 c_6]; rfl, ht⟩) (fun _ h => by cases h) dX6_isCodeWord_37
  · have c_3h : bI (hn (2 ^ o) (nI x1)) = (0 : Int32) := c_3
    exact absurd (hn_t hx1 (by have := hC.2.2.2.2.1; exact Nat.lt_of_le_of_lt (Nat.pow_le_pow_right (by decide) this) (by decide : 2 ^ 6 < 2 ^ 31))) (by rw [bI_0.mp c_3]; decide)
set_option maxHeartbeats 4000000 in
set_option maxRecDepth 100000 in
theorem c6_isCodeWord_no (l : Launch) (D : va_G) (g : hk_G) (ti : Nat) (mo : Nat) (ms : Nat) (mr : Nat) (mk : Nat) (mt : Nat) (mv : Nat) (me : Nat) (fs : Nat → Int32) (km : Nat) (ln : Nat) (sp : Nat) (rs : Nat) (ws : Nat) (n : Nat) (N : Nat) (o : Nat) (cd : Nat) (wt : Nat) (ty : Nat → Nat) (pa : Nat → Nat) (pb : Nat → Nat) (vo : Nat → Nat) (nm : Int64) (v : Int32) (hC : Cok n N o cd wt) (hM : MR n N o cd wt ty pa pb vo nm fs) (hv : hn (2 ^ o) v = false) : Met l yX6_isCodeWord wsX6_isCodeWord ({ frames := 1, cells := 0, slots := 0, locals := 25 }) (va_Pc [.ref mo, .int v] (hk_Ro D g ti [(mo, .inr (6, [.ref ms, .ref mr, .ref mk, .int (nI km), .ref mt, .int (nI ln), .int (nI sp), .int (nI rs), .int (nI ws), .ref mv, .ref me])), (ms, .inl (g.2.1, 147, .inl fs))])) (vp_Si (fun r => r = -101)) 0 0 (fun _ => False) := by
  refine Met.ofW (cc := cX6_isCodeWord) (maxL := 2) (ret := (some .int)) (by decide) rfl ?_
  intro p e s m args below meth c s₁ Bd hml hv
  obtain ⟨rfl, hP, hE⟩ := hv
  have hx := Bd.exec
  have hb := Bd.bytes
  have hr := Bd.returns
  have hts := atoms_spec (ws := wsX6_isCodeWord) Bd.pre
  have hown : s.vm.findClass RX6 = some m.cls := findClass_of_methodNamed Bd.named
  have hlocks := Bd.notSynchronized
  have hK := hE.1
  have hi6 : ∀ w ∈ wsX60, w ∈ wsX6_isCodeWord := fun w h => List.mem_cons_of_mem _ (List.mem_append_right _ h)
  have hS : va_S (fun _ => False) s.heap s.heap [] := va_S.rf
  have hl := lv_entry ([.ref mo, .int v]) (n := 2) (Nat.le_of_ble_eq_true rfl)
  rw [lg_entry_eq]
  generalize (lg_sl ([.ref mo, .int v]) ++ List.replicate (2 - (lg_sl ([.ref mo, .int v])).length) Slot.unset).toArray = ls at hl ⊢
  have hl : lv_has ls 2 [(0, .ref mo), (1, .int v)] := hl
  refine lv_iload_n hx hb dX6_isCodeWord_0 rfl (lv_at hl 1 rfl) ?_
  refine lv_i2l hx hb dX6_isCodeWord_1 rfl ?_
  refine lv_lconst (v := 0) hx hb dX6_isCodeWord_2 (by decide) ?_
  refine lv_iconst (v := 1) hx hb dX6_isCodeWord_3 (by decide) ?_
  refine lv_aload_n hx hb dX6_isCodeWord_4 rfl (lv_at hl 0 rfl) ?_
  refine va_get (D := D) (ci := 6) (v := .ref ms) (C := RX6) (T := TX6) (N := 11) hx hb hts hi6 hown hK hP 0 rfl rfl 0 (by decide) (hts (.fieldLink RX6 7 "SelfCheckingCircuitModel" "s" "[I") (by decide +kernel)) (fun _ h9 => h9) rfl dX6_isCodeWord_5 ?_
  refine lv_bipush (v := 74) hx hb dX6_isCodeWord_8 (by decide) ?_
  refine va_iald hx hb hK hP 1 1 rfl rfl (by unfold vp_in; decide) dX6_isCodeWord_10 ?_
  refine hk_ti (fs 74) (congrArg fs (by decide)) ?_
  refine hk_ti (nI o) (hM.1.2.2.1) ?_
  refine lv_ishl hx hb dX6_isCodeWord_11 ?_
  refine hk_ti (nI (2 ^ o)) (hn_pw o (by have := hC.2.2.2.2.1; omega)) ?_
  refine lv_iconst (v := 1) hx hb dX6_isCodeWord_12 (by decide) ?_
  refine lv_isub hx hb dX6_isCodeWord_13 ?_
  refine lv_i2l hx hb dX6_isCodeWord_14 rfl ?_
  refine hk_csi (va_runS (As := [.long v.toInt64, .long 0, .long ((nI (2 ^ o) - (1 : Int32)).toInt64)]) (rest := []) ⟨hx, hb, hml, hown, hts⟩ (c6_in l D g ti v.toInt64 0 ((nI (2 ^ o) - (1 : Int32)).toInt64) ) (va_cwS 3 hts gX6_isCodeWord_X6_in rfl rfl rfl (by decide +kernel) ⟨Nat.le_of_ble_eq_true rfl, Nat.le_of_ble_eq_true rfl⟩) (hk_roS hE hP hS [] rfl) rfl rfl hl.1 rfl (lv_room (Nat.le_of_ble_eq_true rfl)) dX6_isCodeWord_15 ⟨Nat.zero_le _, Nat.zero_le _⟩) (fun r_1 hr_2 => ?_)
  subst hr_2
  refine hk_ti (bI (hn (2 ^ o) v)) (by rw [inL_hn (hi_N (by have := hC.2.2.2.2.1; exact Nat.lt_of_le_of_lt (Nat.pow_le_pow_right (by decide) this) (by decide : 2 ^ 6 < 2 ^ 30))) (by have := hC.2.2.2.2.1; exact Nat.lt_of_le_of_lt (Nat.pow_le_pow_right (by decide) this) (by decide : 2 ^ 6 < 2 ^ 31))]) ?_
  refine lv_if_ne (tgt := 24) hx hb dX6_isCodeWord_18 (by decide) (fun c_3 => ?_) (fun c_3 => ?_)
  · have c_3h : ¬ bI (hn (2 ^ o) v) = (0 : Int32) := c_3
    exact absurd (bI_0.mpr hv) c_3
  · have c_3h : bI (hn (2 ^ o) v) = (0 : Int32) := c_3
    refine lv_bipush (v := (-101)) hx hb dX6_isCodeWord_21 (by decide) ?_
    exact W.iret (v := (-101)) hx hb hr (fun tt ht hW => ⟨_, rfl, rfl, ht⟩) (fun _ h => by cases h) dX6_isCodeWord_23
set_option maxHeartbeats 4000000 in
set_option maxRecDepth 100000 in
theorem c6_errorKind (l : Launch) (D : va_G) (g : hk_G) (ti : Nat) (sz : Nat) (mo : Nat) (ms : Nat) (mr : Nat) (mk : Nat) (mt : Nat) (mv : Nat) (me : Nat) (fs : Nat → Int32) (km : Nat) (ln : Nat) (sp : Nat) (rs : Nat) (ws : Nat) (fv : Nat → Int32) (n : Nat) (N : Nat) (o : Nat) (cd : Nat) (wt : Nat) (ty : Nat → Nat) (pa : Nat → Nat) (pb : Nat → Nat) (vo : Nat → Nat) (nm : Int64) (w : Nat) (f : Int32) (hC : Cok n N o cd wt) (hM : MR n N o cd wt ty pa pb vo nm fs) (hw2 : w < 2 ^ n) (hw : w < 64) (hf : hn (2 * N) f = true) : Met l yX6_errorKind wsX6_errorKind ({ frames := 3, cells := 0, slots := 0, locals := 69 }) (va_Pc [.ref mo, .int (nI w), .int f] (hk_In D g ti [(mo, .inr (6, [.ref ms, .ref mr, .ref mk, .int (nI km), .ref mt, .int (nI ln), .int (nI sp), .int (nI rs), .int (nI ws), .ref mv, .ref me])), (ms, .inl (g.2.1, 147, .inl fs)), (mv, .inl (g.2.1, 30, .inl fv))] sz)) (va_Qi (S := Nat → Int32) (fun r _ => r = ek (nI (wd (oB n ty pa pb vo f w) o)) (nI (wd (oB n ty pa pb vo (-1) w) o))) (fun u => hk_Out D (va_A [(mo, .inr (6, [.ref ms, .ref mr, .ref mk, .int (nI km), .ref mt, .int (nI ln), .int (nI sp), .int (nI rs), .int (nI ws), .ref mv, .ref me])), (ms, .inl (g.2.1, 147, .inl fs)), (mv, .inl (g.2.1, 30, .inl fv))] sz) (match u with | f' => [(mo, .inr (6, [.ref ms, .ref mr, .ref mk, .int (nI km), .ref mt, .int (nI ln), .int (nI sp), .int (nI rs), .int (nI ws), .ref mv, .ref me])), (ms, .inl (g.2.1, 147, .inl fs)), (mv, .inl (g.2.1, 30, .inl f'))])) (va_A [(mo, .inr (6, [.ref ms, .ref mr, .ref mk, .int (nI km), .ref mt, .int (nI ln), .int (nI sp), .int (nI rs), .int (nI ws), .ref mv, .ref me])), (ms, .inl (g.2.1, 147, .inl fs)), (mv, .inl (g.2.1, 30, .inl fv))] sz)) 0 0 (va_A [(mo, .inr (6, [.ref ms, .ref mr, .ref mk, .int (nI km), .ref mt, .int (nI ln), .int (nI sp), .int (nI rs), .int (nI ws), .ref mv, .ref me])), (ms, .inl (g.2.1, 147, .inl fs)), (mv, .inl (g.2.1, 30, .inl fv))] sz) := by
  refine Met.ofW (cc := cX6_errorKind) (maxL := 5) (ret := (some .int)) (by decide) rfl ?_
  intro p e s m args below meth c s₁ Bd hml hv
  obtain ⟨rfl, hsz, hP, hD0, hE⟩ := hv
  have hx := Bd.exec
  have hb := Bd.bytes
  have hr := Bd.returns
  have hts := atoms_spec (ws := wsX6_errorKind) Bd.pre
  have hown : s.vm.findClass RX6 = some m.cls := findClass_of_methodNamed Bd.named
  have hlocks := Bd.notSynchronized
  have hK := hE.1
  subst hsz
  have hD := hD0.self (sz := s.heap.size)
  generalize hAe : va_A [(mo, .inr (6, [.ref ms, .ref mr, .ref mk, .int (nI km), .ref mt, .int (nI ln), .int (nI sp), .int (nI rs), .int (nI ws), .ref mv, .ref me])), (ms, .inl (g.2.1, 147, .inl fs)), (mv, .inl (g.2.1, 30, .inl fv))] s.heap.size = A at hD hE ⊢
  have hA : ∀ q : Nat, s.heap.size ≤ q → A q := fun q h => by rw [← hAe]; exact Or.inr h
  have hS : va_S A s.heap s.heap [] := va_S.rf
  have hl := lv_entry ([.ref mo, .int (nI w), .int f]) (n := 5) (Nat.le_of_ble_eq_true rfl)
  rw [lg_entry_eq]
  generalize (lg_sl ([.ref mo, .int (nI w), .int f]) ++ List.replicate (5 - (lg_sl ([.ref mo, .int (nI w), .int f])).length) Slot.unset).toArray = ls at hl ⊢
  have hl : lv_has ls 5 [(0, .ref mo), (1, .int (nI w)), (2, .int f)] := hl
  refine lv_aload_n hx hb dX6_errorKind_0 rfl (lv_at hl 0 rfl) ?_
  refine lv_iload_n hx hb dX6_errorKind_1 rfl (lv_at hl 1 rfl) ?_
  refine hk_csi (va_runV (As := [.int (nI w)]) (rest := []) ⟨hx, hb, hml, hown, hts⟩ (c6_isWord l D g ti mo ms mr mk mt mv me fs km ln sp rs ws n N o cd wt ty pa pb vo nm (nI w) hC hM) (cwV 1 hts gX6_errorKind_X6_isWord rfl rfl rfl (by decide +kernel) ⟨Nat.le_of_ble_eq_true rfl, Nat.le_of_ble_eq_true rfl⟩) (hk_roV hE hP hS 6 rfl rfl [0, 1] rfl rfl) rfl rfl hl.1 rfl (lv_room (Nat.le_of_ble_eq_true rfl)) dX6_errorKind_2 ⟨Nat.zero_le _, Nat.zero_le _⟩) (fun r_1 hr_2 => ?_)
  subst hr_2
  refine lv_if_eq (tgt := 16) hx hb dX6_errorKind_5 (by decide) (fun c_3 => ?_) (fun c_3 => ?_)
  · have c_3h : (bI (hn (2 ^ n) (nI w))) = (0 : Int32) := c_3
    exact absurd (bI_0.mp c_3) (by rw [hn_t hw2 (by have := hC.2.1; exact Nat.lt_of_le_of_lt (Nat.pow_le_pow_right (by decide) this) (by decide : 2 ^ 6 < 2 ^ 31))]; decide)
  · have c_3h : ¬ (bI (hn (2 ^ n) (nI w))) = (0 : Int32) := c_3
    refine lv_aload_n hx hb dX6_errorKind_8 rfl (lv_at hl 0 rfl) ?_
    refine lv_iload_n hx hb dX6_errorKind_9 rfl (lv_at hl 2 rfl) ?_
    refine hk_csi (va_runV (As := [.int f]) (rest := []) ⟨hx, hb, hml, hown, hts⟩ (c6_isFault l D g ti mo ms mr mk mt mv me fs km ln sp rs ws n N o cd wt ty pa pb vo nm f hC hM) (cwV 1 hts gX6_errorKind_X6_isFault rfl rfl rfl (by decide +kernel) ⟨Nat.le_of_ble_eq_true rfl, Nat.le_of_ble_eq_true rfl⟩) (hk_roV hE hP hS 6 rfl rfl [0, 1] rfl rfl) rfl rfl hl.1 rfl (lv_room (Nat.le_of_ble_eq_true rfl)) dX6_errorKind_10 ⟨Nat.zero_le _, Nat.zero_le _⟩) (fun r_4 hr_5 => ?_)
    subst hr_5
    refine lv_if_ne (tgt := 19) hx hb dX6_errorKind_13 (by decide) (fun c_6 => ?_) (fun c_6 => ?_)
    · have c_6h : ¬ (bI (hn (2 * N) f)) = (0 : Int32) := c_6
      refine lv_aload_n hx hb dX6_errorKind_19 rfl (lv_at hl 0 rfl) ?_
      refine lv_iload_n hx hb dX6_errorKind_20 rfl (lv_at hl 1 rfl) ?_
      refine lv_iconst (v := (-1)) hx hb dX6_errorKind_21 (by decide) ?_
      refine hk_cmi (wr := []) (va_runV (As := [.int (nI w), .int (-1)]) (rest := []) ⟨hx, hb, hml, hown, hts⟩ (c6_told l D g ti _ mo ms mr mk mt mv me fs km ln sp rs ws fv n N o cd wt ty pa pb vo nm w (-1) hC hM hw (Or.inl rfl)) (cwV 2 hts gX6_errorKind_X6_told rfl rfl rfl (by decide +kernel) ⟨Nat.le_of_ble_eq_true rfl, Nat.le_of_ble_eq_true rfl⟩) (hk_inV hE hP hD hS hA 6 rfl rfl [0, 1, 2] (by decide) rfl rfl) rfl rfl hl.1 rfl (lv_room (Nat.le_of_ble_eq_true rfl)) dX6_errorKind_22 ⟨Nat.zero_le _, Nat.zero_le _⟩) hP hD hS hA [0, 1, 2] [] rfl rfl (by decide) (by decide) (fun r_7 tv H locs hr_8 hP hD hS => ?_)
      try dsimp only at hr_8
      have hP : va_P D vwCl [(mo, .inr (6, [.ref ms, .ref mr, .ref mk, .int (nI km), .ref mt, .int (nI ln), .int (nI sp), .int (nI rs), .int (nI ws), .ref mv, .ref me])), (ms, .inl (g.2.1, 147, .inl fs)), (mv, .inl (g.2.1, 30, .inl tv))] H := hP
      have hD : va_D A [(mo, .inr (6, [.ref ms, .ref mr, .ref mk, .int (nI km), .ref mt, .int (nI ln), .int (nI sp), .int (nI rs), .int (nI ws), .ref mv, .ref me])), (ms, .inl (g.2.1, 147, .inl fs)), (mv, .inl (g.2.1, 30, .inl tv))] := hD
      refine hk_ti (nI (wd (oB n ty pa pb vo (-1) w) o)) hr_8 ?_
      refine lv_istore_n (lv' := [(3, .int (nI (wd (oB n ty pa pb vo (-1) w) o))), (0, .ref mo), (1, .int (nI w)), (2, .int f)]) hx hb dX6_errorKind_25 rfl hl (by decide) rfl (fun ls hl => ?_)
      refine lv_aload_n hx hb dX6_errorKind_26 rfl (lv_at hl 1 rfl) ?_
      refine lv_iload_n hx hb dX6_errorKind_27 rfl (lv_at hl 2 rfl) ?_
      refine lv_iload_n hx hb dX6_errorKind_28 rfl (lv_at hl 3 rfl) ?_
      refine hk_cmi (wr := []) (va_runV (As := [.int (nI w), .int f]) (rest := []) ⟨hx, hb, hml, hown, hts⟩ (c6_told l D g ti _ mo ms mr mk mt mv me fs km ln sp rs ws tv n N o cd wt ty pa pb vo nm w f hC hM hw (fK_hn hf (by have := hC.2.2.2.1; have := hC.2.1; omega))) (cwV 2 hts gX6_errorKind_X6_told rfl rfl rfl (by decide +kernel) ⟨Nat.le_of_ble_eq_true rfl, Nat.le_of_ble_eq_true rfl⟩) (hk_inV hE hP hD hS hA 6 rfl rfl [0, 1, 2] (by decide) rfl rfl) rfl rfl hl.1 rfl (lv_room (Nat.le_of_ble_eq_true rfl)) dX6_errorKind_29 ⟨Nat.zero_le _, Nat.zero_le _⟩) hP hD hS hA [0, 1, 2] [] rfl rfl (by decide) (by decide) (fun r_9 tw H locs hr_10 hP hD hS => ?_)
      try dsimp only at hr_10
      have hP : va_P D vwCl [(mo, .inr (6, [.ref ms, .ref mr, .ref mk, .int (nI km), .ref mt, .int (nI ln), .int (nI sp), .int (nI rs), .int (nI ws), .ref mv, .ref me])), (ms, .inl (g.2.1, 147, .inl fs)), (mv, .inl (g.2.1, 30, .inl tw))] H := hP
      have hD : va_D A [(mo, .inr (6, [.ref ms, .ref mr, .ref mk, .int (nI km), .ref mt, .int (nI ln), .int (nI sp), .int (nI rs), .int (nI ws), .ref mv, .ref me])), (ms, .inl (g.2.1, 147, .inl fs)), (mv, .inl (g.2.1, 30, .inl tw))] := hD
      refine hk_ti (nI (wd (oB n ty pa pb vo f w) o)) hr_10 ?_
      refine lv_istore (lv' := [(4, .int (nI (wd (oB n ty pa pb vo f w) o))), (3, .int (nI (wd (oB n ty pa pb vo (-1) w) o))), (0, .ref mo), (1, .int (nI w)), (2, .int f)]) hx hb dX6_errorKind_32 hl (by decide) rfl (fun ls hl => ?_)
      refine lv_iload hx hb dX6_errorKind_34 (lv_at hl 0 rfl) ?_
      refine lv_iload_n hx hb dX6_errorKind_36 rfl (lv_at hl 1 rfl) ?_
      refine lv_iconst (v := (-1)) hx hb dX6_errorKind_37 (by decide) ?_
      refine lv_ixor hx hb dX6_errorKind_38 ?_
      refine lv_iand hx hb dX6_errorKind_39 ?_
      refine lv_if_eq (tgt := 47) hx hb dX6_errorKind_40 (by decide) (fun c_11 => ?_) (fun c_11 => ?_)
      · have c_11h : (nI (wd (oB n ty pa pb vo f w) o) &&& (nI (wd (oB n ty pa pb vo (-1) w) o) ^^^ (-1 : Int32))) = (0 : Int32) := c_11
        refine lv_iconst (v := 0) hx hb dX6_errorKind_47 (by decide) ?_
        refine lv_iload_n hx hb dX6_errorKind_48 rfl (lv_at hl 1 rfl) ?_
        refine lv_iload hx hb dX6_errorKind_49 (lv_at hl 0 rfl) ?_
        refine lv_iconst (v := (-1)) hx hb dX6_errorKind_51 (by decide) ?_
        refine lv_ixor hx hb dX6_errorKind_52 ?_
        refine lv_iand hx hb dX6_errorKind_53 ?_
        refine lv_if_eq (tgt := 61) hx hb dX6_errorKind_54 (by decide) (fun c_12 => ?_) (fun c_12 => ?_)
        · have c_12h : (nI (wd (oB n ty pa pb vo (-1) w) o) &&& (nI (wd (oB n ty pa pb vo f w) o) ^^^ (-1 : Int32))) = (0 : Int32) := c_12
          refine lv_iconst (v := 0) hx hb dX6_errorKind_61 (by decide) ?_
          refine lv_iadd hx hb dX6_errorKind_62 ?_
          refine hk_ti 0 (by decide) ?_
          have hP9 := hP.sub (ws' := [(mo, .inr (6, [.ref ms, .ref mr, .ref mk, .int (nI km), .ref mt, .int (nI ln), .int (nI sp), .int (nI rs), .int (nI ws), .ref mv, .ref me])), (ms, .inl (g.2.1, 147, .inl fs)), (mv, .inl (g.2.1, 30, .inl tw))]) [0, 1, 2] rfl
          have hD9 := hD.sub (ws' := [(mo, .inr (6, [.ref ms, .ref mr, .ref mk, .int (nI km), .ref mt, .int (nI ln), .int (nI sp), .int (nI rs), .int (nI ws), .ref mv, .ref me])), (ms, .inl (g.2.1, 147, .inl fs)), (mv, .inl (g.2.1, 30, .inl tw))]) [0, 1, 2] (by decide) rfl
          exact W.iret (v := 0) hx hb hr (fun tt ht hW => ⟨⟨_, tw, rfl, by unfold ek; rw [if_pos c_11, if_pos c_12]; rfl, by rw [ht]; exact hP9, hD9⟩, hS.F ht⟩) hS.2.2 dX6_errorKind_63
        · have c_12h : ¬ (nI (wd (oB n ty pa pb vo (-1) w) o) &&& (nI (wd (oB n ty pa pb vo f w) o) ^^^ (-1 : Int32))) = (0 : Int32) := c_12
          refine lv_iconst (v := 2) hx hb dX6_errorKind_57 (by decide) ?_
          refine lv_goto (tgt := 62) hx hb dX6_errorKind_58 (by decide) ?_
          refine lv_iadd hx hb dX6_errorKind_62 ?_
          refine hk_ti 2 (by decide) ?_
          have hP9 := hP.sub (ws' := [(mo, .inr (6, [.ref ms, .ref mr, .ref mk, .int (nI km), .ref mt, .int (nI ln), .int (nI sp), .int (nI rs), .int (nI ws), .ref mv, .ref me])), (ms, .inl (g.2.1, 147, .inl fs)), (mv, .inl (g.2.1, 30, .inl tw))]) [0, 1, 2] rfl
          have hD9 := hD.sub (ws' := [(mo, .inr (6, [.ref ms, .ref mr, .ref mk, .int (nI km), .ref mt, .int (nI ln), .int (nI sp), .int (nI rs), .int (nI ws), .ref mv, .ref me])), (ms, .inl (g.2.1, 147, .inl fs)), (mv, .inl (g.2.1, 30, .inl tw))]) [0, 1, 2] (by decide) rfl
          exact W.iret (v := 2) hx hb hr (fun tt ht hW => ⟨⟨_, tw, rfl, by unfold ek; rw [if_pos c_11, if_neg c_12]; rfl, by rw [ht]; exact hP9, hD9⟩, hS.F ht⟩) hS.2.2 dX6_errorKind_63
      · have c_11h : ¬ (nI (wd (oB n ty pa pb vo f w) o) &&& (nI (wd (oB n ty pa pb vo (-1) w) o) ^^^ (-1 : Int32))) = (0 : Int32) := c_11
        refine lv_iconst (v := 1) hx hb dX6_errorKind_43 (by decide) ?_
        refine lv_goto (tgt := 48) hx hb dX6_errorKind_44 (by decide) ?_
        refine lv_iload_n hx hb dX6_errorKind_48 rfl (lv_at hl 1 rfl) ?_
        refine lv_iload hx hb dX6_errorKind_49 (lv_at hl 0 rfl) ?_
        refine lv_iconst (v := (-1)) hx hb dX6_errorKind_51 (by decide) ?_
        refine lv_ixor hx hb dX6_errorKind_52 ?_
        refine lv_iand hx hb dX6_errorKind_53 ?_
        refine lv_if_eq (tgt := 61) hx hb dX6_errorKind_54 (by decide) (fun c_13 => ?_) (fun c_13 => ?_)
        · have c_13h : (nI (wd (oB n ty pa pb vo (-1) w) o) &&& (nI (wd (oB n ty pa pb vo f w) o) ^^^ (-1 : Int32))) = (0 : Int32) := c_13
          refine lv_iconst (v := 0) hx hb dX6_errorKind_61 (by decide) ?_
          refine lv_iadd hx hb dX6_errorKind_62 ?_
          refine hk_ti 1 (by decide) ?_
          have hP9 := hP.sub (ws' := [(mo, .inr (6, [.ref ms, .ref mr, .ref mk, .int (nI km), .ref mt, .int (nI ln), .int (nI sp), .int (nI rs), .int (nI ws), .ref mv, .ref me])), (ms, .inl (g.2.1, 147, .inl fs)), (mv, .inl (g.2.1, 30, .inl tw))]) [0, 1, 2] rfl
          have hD9 := hD.sub (ws' := [(mo, .inr (6, [.ref ms, .ref mr, .ref mk, .int (nI km), .ref mt, .int (nI ln), .int (nI sp), .int (nI rs), .int (nI ws), .ref mv, .ref me])), (ms, .inl (g.2.1, 147, .inl fs)), (mv, .inl (g.2.1, 30, .inl tw))]) [0, 1, 2] (by decide) rfl
          exact W.iret (v := 1) hx hb hr (fun tt ht hW => ⟨⟨_, tw, rfl, by unfold ek; rw [if_neg c_11, if_pos c_13]; rfl, by rw [ht]; exact hP9, hD9⟩, hS.F ht⟩) hS.2.2 dX6_errorKind_63
        · have c_13h : ¬ (nI (wd (oB n ty pa pb vo (-1) w) o) &&& (nI (wd (oB n ty pa pb vo f w) o) ^^^ (-1 : Int32))) = (0 : Int32) := c_13
          refine lv_iconst (v := 2) hx hb dX6_errorKind_57 (by decide) ?_
          refine lv_goto (tgt := 62) hx hb dX6_errorKind_58 (by decide) ?_
          refine lv_iadd hx hb dX6_errorKind_62 ?_
          refine hk_ti 3 (by decide) ?_
          have hP9 := hP.sub (ws' := [(mo, .inr (6, [.ref ms, .ref mr, .ref mk, .int (nI km), .ref mt, .int (nI ln), .int (nI sp), .int (nI rs), .int (nI ws), .ref mv, .ref me])), (ms, .inl (g.2.1, 147, .inl fs)), (mv, .inl (g.2.1, 30, .inl tw))]) [0, 1, 2] rfl
          have hD9 := hD.sub (ws' := [(mo, .inr (6, [.ref ms, .ref mr, .ref mk, .int (nI km), .ref mt, .int (nI ln), .int (nI sp), .int (nI rs), .int (nI ws), .ref mv, .ref me])), (ms, .inl (g.2.1, 147, .inl fs)), (mv, .inl (g.2.1, 30, .inl tw))]) [0, 1, 2] (by decide) rfl
          exact W.iret (v := 3) hx hb hr (fun tt ht hW => ⟨⟨_, tw, rfl, by unfold ek; rw [if_neg c_11, if_neg c_13]; rfl, by rw [ht]; exact hP9, hD9⟩, hS.F ht⟩) hS.2.2 dX6_errorKind_63
    · have c_6h : (bI (hn (2 * N) f)) = (0 : Int32) := c_6
      exact absurd hf (by rw [bI_0.mp c_6]; decide)
set_option maxHeartbeats 4000000 in
set_option maxRecDepth 100000 in
theorem c6_errorKind_no (l : Launch) (D : va_G) (g : hk_G) (ti : Nat) (mo : Nat) (ms : Nat) (mr : Nat) (mk : Nat) (mt : Nat) (mv : Nat) (me : Nat) (fs : Nat → Int32) (km : Nat) (ln : Nat) (sp : Nat) (rs : Nat) (ws : Nat) (n : Nat) (N : Nat) (o : Nat) (cd : Nat) (wt : Nat) (ty : Nat → Nat) (pa : Nat → Nat) (pb : Nat → Nat) (vo : Nat → Nat) (nm : Int64) (v : Int32) (f : Int32) (hC : Cok n N o cd wt) (hM : MR n N o cd wt ty pa pb vo nm fs) (hv : hn (2 ^ n) v = false ∨ hn (2 * N) f = false) : Met l yX6_errorKind wsX6_errorKind ({ frames := 2, cells := 0, slots := 0, locals := 46 }) (va_Pc [.ref mo, .int v, .int f] (hk_Ro D g ti [(mo, .inr (6, [.ref ms, .ref mr, .ref mk, .int (nI km), .ref mt, .int (nI ln), .int (nI sp), .int (nI rs), .int (nI ws), .ref mv, .ref me])), (ms, .inl (g.2.1, 147, .inl fs))])) (vp_Si (fun r => r = -101)) 0 0 (fun _ => False) := by
  refine Met.ofW (cc := cX6_errorKind) (maxL := 5) (ret := (some .int)) (by decide) rfl ?_
  intro p e s m args below meth c s₁ Bd hml hv
  obtain ⟨rfl, hP, hE⟩ := hv
  have hx := Bd.exec
  have hb := Bd.bytes
  have hr := Bd.returns
  have hts := atoms_spec (ws := wsX6_errorKind) Bd.pre
  have hown : s.vm.findClass RX6 = some m.cls := findClass_of_methodNamed Bd.named
  have hlocks := Bd.notSynchronized
  have hK := hE.1
  have hS : va_S (fun _ => False) s.heap s.heap [] := va_S.rf
  have hl := lv_entry ([.ref mo, .int v, .int f]) (n := 5) (Nat.le_of_ble_eq_true rfl)
  rw [lg_entry_eq]
  generalize (lg_sl ([.ref mo, .int v, .int f]) ++ List.replicate (5 - (lg_sl ([.ref mo, .int v, .int f])).length) Slot.unset).toArray = ls at hl ⊢
  have hl : lv_has ls 5 [(0, .ref mo), (1, .int v), (2, .int f)] := hl
  refine lv_aload_n hx hb dX6_errorKind_0 rfl (lv_at hl 0 rfl) ?_
  refine lv_iload_n hx hb dX6_errorKind_1 rfl (lv_at hl 1 rfl) ?_
  refine hk_csi (va_runV (As := [.int v]) (rest := []) ⟨hx, hb, hml, hown, hts⟩ (c6_isWord l D g ti mo ms mr mk mt mv me fs km ln sp rs ws n N o cd wt ty pa pb vo nm v hC hM) (cwV 1 hts gX6_errorKind_X6_isWord rfl rfl rfl (by decide +kernel) ⟨Nat.le_of_ble_eq_true rfl, Nat.le_of_ble_eq_true rfl⟩) (hk_roV hE hP hS 6 rfl rfl [0, 1] rfl rfl) rfl rfl hl.1 rfl (lv_room (Nat.le_of_ble_eq_true rfl)) dX6_errorKind_2 ⟨Nat.zero_le _, Nat.zero_le _⟩) (fun r_1 hr_2 => ?_)
  subst hr_2
  refine lv_if_eq (tgt := 16) hx hb dX6_errorKind_5 (by decide) (fun c_3 => ?_) (fun c_3 => ?_)
  · have c_3h : (bI (hn (2 ^ n) v)) = (0 : Int32) := c_3
    refine lv_bipush (v := (-101)) hx hb dX6_errorKind_16 (by decide) ?_
    exact W.iret (v := (-101)) hx hb hr (fun tt ht hW => ⟨_, rfl, rfl, ht⟩) (fun _ h => by cases h) dX6_errorKind_18
  · have c_3h : ¬ (bI (hn (2 ^ n) v)) = (0 : Int32) := c_3
    refine lv_aload_n hx hb dX6_errorKind_8 rfl (lv_at hl 0 rfl) ?_
    refine lv_iload_n hx hb dX6_errorKind_9 rfl (lv_at hl 2 rfl) ?_
    refine hk_csi (va_runV (As := [.int f]) (rest := []) ⟨hx, hb, hml, hown, hts⟩ (c6_isFault l D g ti mo ms mr mk mt mv me fs km ln sp rs ws n N o cd wt ty pa pb vo nm f hC hM) (cwV 1 hts gX6_errorKind_X6_isFault rfl rfl rfl (by decide +kernel) ⟨Nat.le_of_ble_eq_true rfl, Nat.le_of_ble_eq_true rfl⟩) (hk_roV hE hP hS 6 rfl rfl [0, 1] rfl rfl) rfl rfl hl.1 rfl (lv_room (Nat.le_of_ble_eq_true rfl)) dX6_errorKind_10 ⟨Nat.zero_le _, Nat.zero_le _⟩) (fun r_4 hr_5 => ?_)
    subst hr_5
    refine lv_if_ne (tgt := 19) hx hb dX6_errorKind_13 (by decide) (fun c_6 => ?_) (fun c_6 => ?_)
    · have c_6h : ¬ (bI (hn (2 * N) f)) = (0 : Int32) := c_6
      exact absurd (bI_0.mpr (hv.resolve_left (by rw [bI_n0 c_3]; decide))) c_6
    · have c_6h : (bI (hn (2 * N) f)) = (0 : Int32) := c_6
      refine lv_bipush (v := (-101)) hx hb dX6_errorKind_16 (by decide) ?_
      exact W.iret (v := (-101)) hx hb hr (fun tt ht hW => ⟨_, rfl, rfl, ht⟩) (fun _ h => by cases h) dX6_errorKind_18
set_option maxHeartbeats 4000000 in
set_option maxRecDepth 100000 in
theorem c6_firstTest (l : Launch) (D : va_G) (g : hk_G) (ti : Nat) (sz : Nat) (mo : Nat) (ms : Nat) (mr : Nat) (mk : Nat) (mt : Nat) (mv : Nat) (me : Nat) (fs : Nat → Int32) (km : Nat) (ln : Nat) (sp : Nat) (rs : Nat) (ws : Nat) (fv : Nat → Int32) (n : Nat) (N : Nat) (o : Nat) (cd : Nat) (wt : Nat) (ty : Nat → Nat) (pa : Nat → Nat) (pb : Nat → Nat) (vo : Nat → Nat) (nm : Int64) (f : Int32) (hC : Cok n N o cd wt) (hM : MR n N o cd wt ty pa pb vo nm fs) (hf : hn (2 * N) f = true) : Met l yX6_firstTest wsX6_firstTest ({ frames := 5, cells := 0, slots := 0, locals := 113 }) (va_Pc [.ref mo, .int f] (hk_In D g ti [(mo, .inr (6, [.ref ms, .ref mr, .ref mk, .int (nI km), .ref mt, .int (nI ln), .int (nI sp), .int (nI rs), .int (nI ws), .ref mv, .ref me])), (ms, .inl (g.2.1, 147, .inl fs)), (mv, .inl (g.2.1, 30, .inl fv))] sz)) (va_Qi (S := Nat → Int32) (fun r _ => isF (exB n o cd wt ty pa pb vo nm f) (2 ^ n) r) (fun u => hk_Out D (va_A [(mo, .inr (6, [.ref ms, .ref mr, .ref mk, .int (nI km), .ref mt, .int (nI ln), .int (nI sp), .int (nI rs), .int (nI ws), .ref mv, .ref me])), (ms, .inl (g.2.1, 147, .inl fs)), (mv, .inl (g.2.1, 30, .inl fv))] sz) (match u with | f' => [(mo, .inr (6, [.ref ms, .ref mr, .ref mk, .int (nI km), .ref mt, .int (nI ln), .int (nI sp), .int (nI rs), .int (nI ws), .ref mv, .ref me])), (ms, .inl (g.2.1, 147, .inl fs)), (mv, .inl (g.2.1, 30, .inl f'))])) (va_A [(mo, .inr (6, [.ref ms, .ref mr, .ref mk, .int (nI km), .ref mt, .int (nI ln), .int (nI sp), .int (nI rs), .int (nI ws), .ref mv, .ref me])), (ms, .inl (g.2.1, 147, .inl fs)), (mv, .inl (g.2.1, 30, .inl fv))] sz)) 0 0 (va_A [(mo, .inr (6, [.ref ms, .ref mr, .ref mk, .int (nI km), .ref mt, .int (nI ln), .int (nI sp), .int (nI rs), .int (nI ws), .ref mv, .ref me])), (ms, .inl (g.2.1, 147, .inl fs)), (mv, .inl (g.2.1, 30, .inl fv))] sz) := by
  refine Met.ofW (cc := cX6_firstTest) (maxL := 2) (ret := (some .int)) (by decide) rfl ?_
  intro p e s m args below meth c s₁ Bd hml hv
  obtain ⟨rfl, hsz, hP, hD0, hE⟩ := hv
  have hx := Bd.exec
  have hb := Bd.bytes
  have hr := Bd.returns
  have hts := atoms_spec (ws := wsX6_firstTest) Bd.pre
  have hown : s.vm.findClass RX6 = some m.cls := findClass_of_methodNamed Bd.named
  have hlocks := Bd.notSynchronized
  have hK := hE.1
  subst hsz
  have hD := hD0.self (sz := s.heap.size)
  generalize hAe : va_A [(mo, .inr (6, [.ref ms, .ref mr, .ref mk, .int (nI km), .ref mt, .int (nI ln), .int (nI sp), .int (nI rs), .int (nI ws), .ref mv, .ref me])), (ms, .inl (g.2.1, 147, .inl fs)), (mv, .inl (g.2.1, 30, .inl fv))] s.heap.size = A at hD hE ⊢
  have hA : ∀ q : Nat, s.heap.size ≤ q → A q := fun q h => by rw [← hAe]; exact Or.inr h
  have hS : va_S A s.heap s.heap [] := va_S.rf
  have hl := lv_entry ([.ref mo, .int f]) (n := 2) (Nat.le_of_ble_eq_true rfl)
  rw [lg_entry_eq]
  generalize (lg_sl ([.ref mo, .int f]) ++ List.replicate (2 - (lg_sl ([.ref mo, .int f])).length) Slot.unset).toArray = ls at hl ⊢
  have hl : lv_has ls 2 [(0, .ref mo), (1, .int f)] := hl
  refine lv_aload_n hx hb dX6_firstTest_0 rfl (lv_at hl 0 rfl) ?_
  refine lv_iload_n hx hb dX6_firstTest_1 rfl (lv_at hl 1 rfl) ?_
  refine hk_csi (va_runV (As := [.int f]) (rest := []) ⟨hx, hb, hml, hown, hts⟩ (c6_isFault l D g ti mo ms mr mk mt mv me fs km ln sp rs ws n N o cd wt ty pa pb vo nm f hC hM) (cwV 1 hts gX6_firstTest_X6_isFault rfl rfl rfl (by decide +kernel) ⟨Nat.le_of_ble_eq_true rfl, Nat.le_of_ble_eq_true rfl⟩) (hk_roV hE hP hS 6 rfl rfl [0, 1] rfl rfl) rfl rfl hl.1 rfl (lv_room (Nat.le_of_ble_eq_true rfl)) dX6_firstTest_2 ⟨Nat.zero_le _, Nat.zero_le _⟩) (fun r_1 hr_2 => ?_)
  subst hr_2
  refine lv_if_eq (tgt := 16) hx hb dX6_firstTest_5 (by decide) (fun c_3 => ?_) (fun c_3 => ?_)
  · have c_3h : (bI (hn (2 * N) f)) = (0 : Int32) := c_3
    exact absurd hf (by rw [bI_0.mp c_3]; decide)
  · have c_3h : ¬ (bI (hn (2 * N) f)) = (0 : Int32) := c_3
    refine lv_aload_n hx hb dX6_firstTest_8 rfl (lv_at hl 0 rfl) ?_
    refine lv_iload_n hx hb dX6_firstTest_9 rfl (lv_at hl 1 rfl) ?_
    refine hk_cmi (wr := []) (va_runV (As := [.int f]) (rest := []) ⟨hx, hb, hml, hown, hts⟩ (c6_test l D g ti _ mo ms mr mk mt mv me fs km ln sp rs ws fv n N o cd wt ty pa pb vo nm f hC hM (fK_hn hf (by have := hC.2.2.2.1; have := hC.2.1; omega))) (cwV 1 hts gX6_firstTest_X6_test rfl rfl rfl (by decide +kernel) ⟨Nat.le_of_ble_eq_true rfl, Nat.le_of_ble_eq_true rfl⟩) (hk_inV hE hP hD hS hA 6 rfl rfl [0, 1, 2] (by decide) rfl rfl) rfl rfl hl.1 rfl (lv_room (Nat.le_of_ble_eq_true rfl)) dX6_firstTest_10 ⟨Nat.zero_le _, Nat.zero_le _⟩) hP hD hS hA [0, 1, 2] [] rfl rfl (by decide) (by decide) (fun r_4 tv H locs hr_5 hP hD hS => ?_)
    try dsimp only at hr_5
    have hP : va_P D vwCl [(mo, .inr (6, [.ref ms, .ref mr, .ref mk, .int (nI km), .ref mt, .int (nI ln), .int (nI sp), .int (nI rs), .int (nI ws), .ref mv, .ref me])), (ms, .inl (g.2.1, 147, .inl fs)), (mv, .inl (g.2.1, 30, .inl tv))] H := hP
    have hD : va_D A [(mo, .inr (6, [.ref ms, .ref mr, .ref mk, .int (nI km), .ref mt, .int (nI ln), .int (nI sp), .int (nI rs), .int (nI ws), .ref mv, .ref me])), (ms, .inl (g.2.1, 147, .inl fs)), (mv, .inl (g.2.1, 30, .inl tv))] := hD
    refine lv_goto (tgt := 18) hx hb dX6_firstTest_13 (by decide) ?_
    have hP9 := hP.sub (ws' := [(mo, .inr (6, [.ref ms, .ref mr, .ref mk, .int (nI km), .ref mt, .int (nI ln), .int (nI sp), .int (nI rs), .int (nI ws), .ref mv, .ref me])), (ms, .inl (g.2.1, 147, .inl fs)), (mv, .inl (g.2.1, 30, .inl tv))]) [0, 1, 2] rfl
    have hD9 := hD.sub (ws' := [(mo, .inr (6, [.ref ms, .ref mr, .ref mk, .int (nI km), .ref mt, .int (nI ln), .int (nI sp), .int (nI rs), .int (nI ws), .ref mv, .ref me])), (ms, .inl (g.2.1, 147, .inl fs)), (mv, .inl (g.2.1, 30, .inl tv))]) [0, 1, 2] (by decide) rfl
    exact W.iret (v := r_4) hx hb hr (fun tt ht hW => ⟨⟨_, tv, rfl, hr_5, by rw [ht]; exact hP9, hD9⟩, hS.F ht⟩) hS.2.2 dX6_firstTest_18
set_option maxHeartbeats 4000000 in
set_option maxRecDepth 100000 in
theorem c6_firstTest_no (l : Launch) (D : va_G) (g : hk_G) (ti : Nat) (mo : Nat) (ms : Nat) (mr : Nat) (mk : Nat) (mt : Nat) (mv : Nat) (me : Nat) (fs : Nat → Int32) (km : Nat) (ln : Nat) (sp : Nat) (rs : Nat) (ws : Nat) (n : Nat) (N : Nat) (o : Nat) (cd : Nat) (wt : Nat) (ty : Nat → Nat) (pa : Nat → Nat) (pb : Nat → Nat) (vo : Nat → Nat) (nm : Int64) (f : Int32) (hC : Cok n N o cd wt) (hM : MR n N o cd wt ty pa pb vo nm fs) (hv : hn (2 * N) f = false) : Met l yX6_firstTest wsX6_firstTest ({ frames := 2, cells := 0, slots := 0, locals := 46 }) (va_Pc [.ref mo, .int f] (hk_Ro D g ti [(mo, .inr (6, [.ref ms, .ref mr, .ref mk, .int (nI km), .ref mt, .int (nI ln), .int (nI sp), .int (nI rs), .int (nI ws), .ref mv, .ref me])), (ms, .inl (g.2.1, 147, .inl fs))])) (vp_Si (fun r => r = -101)) 0 0 (fun _ => False) := by
  refine Met.ofW (cc := cX6_firstTest) (maxL := 2) (ret := (some .int)) (by decide) rfl ?_
  intro p e s m args below meth c s₁ Bd hml hv
  obtain ⟨rfl, hP, hE⟩ := hv
  have hx := Bd.exec
  have hb := Bd.bytes
  have hr := Bd.returns
  have hts := atoms_spec (ws := wsX6_firstTest) Bd.pre
  have hown : s.vm.findClass RX6 = some m.cls := findClass_of_methodNamed Bd.named
  have hlocks := Bd.notSynchronized
  have hK := hE.1
  have hS : va_S (fun _ => False) s.heap s.heap [] := va_S.rf
  have hl := lv_entry ([.ref mo, .int f]) (n := 2) (Nat.le_of_ble_eq_true rfl)
  rw [lg_entry_eq]
  generalize (lg_sl ([.ref mo, .int f]) ++ List.replicate (2 - (lg_sl ([.ref mo, .int f])).length) Slot.unset).toArray = ls at hl ⊢
  have hl : lv_has ls 2 [(0, .ref mo), (1, .int f)] := hl
  refine lv_aload_n hx hb dX6_firstTest_0 rfl (lv_at hl 0 rfl) ?_
  refine lv_iload_n hx hb dX6_firstTest_1 rfl (lv_at hl 1 rfl) ?_
  refine hk_csi (va_runV (As := [.int f]) (rest := []) ⟨hx, hb, hml, hown, hts⟩ (c6_isFault l D g ti mo ms mr mk mt mv me fs km ln sp rs ws n N o cd wt ty pa pb vo nm f hC hM) (cwV 1 hts gX6_firstTest_X6_isFault rfl rfl rfl (by decide +kernel) ⟨Nat.le_of_ble_eq_true rfl, Nat.le_of_ble_eq_true rfl⟩) (hk_roV hE hP hS 6 rfl rfl [0, 1] rfl rfl) rfl rfl hl.1 rfl (lv_room (Nat.le_of_ble_eq_true rfl)) dX6_firstTest_2 ⟨Nat.zero_le _, Nat.zero_le _⟩) (fun r_1 hr_2 => ?_)
  subst hr_2
  refine lv_if_eq (tgt := 16) hx hb dX6_firstTest_5 (by decide) (fun c_3 => ?_) (fun c_3 => ?_)
  · have c_3h : (bI (hn (2 * N) f)) = (0 : Int32) := c_3
    refine lv_bipush (v := (-101)) hx hb dX6_firstTest_16 (by decide) ?_
    exact W.iret (v := (-101)) hx hb hr (fun tt ht hW => ⟨_, rfl, rfl, ht⟩) (fun _ h => by cases h) dX6_firstTest_18
  · have c_3h : ¬ (bI (hn (2 * N) f)) = (0 : Int32) := c_3
    exact absurd (bI_0.mpr hv) c_3
set_option maxHeartbeats 4000000 in
set_option maxRecDepth 100000 in
theorem c6_firstUnsafe (l : Launch) (D : va_G) (g : hk_G) (ti : Nat) (sz : Nat) (mo : Nat) (ms : Nat) (mr : Nat) (mk : Nat) (mt : Nat) (mv : Nat) (me : Nat) (fs : Nat → Int32) (km : Nat) (ln : Nat) (sp : Nat) (rs : Nat) (ws : Nat) (fv : Nat → Int32) (n : Nat) (N : Nat) (o : Nat) (cd : Nat) (wt : Nat) (ty : Nat → Nat) (pa : Nat → Nat) (pb : Nat → Nat) (vo : Nat → Nat) (nm : Int64) (f : Int32) (hC : Cok n N o cd wt) (hM : MR n N o cd wt ty pa pb vo nm fs) (hf : hn (2 * N) f = true) : Met l yX6_firstUnsafe wsX6_firstUnsafe ({ frames := 5, cells := 0, slots := 0, locals := 115 }) (va_Pc [.ref mo, .int f] (hk_In D g ti [(mo, .inr (6, [.ref ms, .ref mr, .ref mk, .int (nI km), .ref mt, .int (nI ln), .int (nI sp), .int (nI rs), .int (nI ws), .ref mv, .ref me])), (ms, .inl (g.2.1, 147, .inl fs)), (mv, .inl (g.2.1, 30, .inl fv))] sz)) (va_Qi (S := Nat → Int32) (fun r _ => isF (unB n o cd wt ty pa pb vo nm f) (2 ^ n) r) (fun u => hk_Out D (va_A [(mo, .inr (6, [.ref ms, .ref mr, .ref mk, .int (nI km), .ref mt, .int (nI ln), .int (nI sp), .int (nI rs), .int (nI ws), .ref mv, .ref me])), (ms, .inl (g.2.1, 147, .inl fs)), (mv, .inl (g.2.1, 30, .inl fv))] sz) (match u with | f' => [(mo, .inr (6, [.ref ms, .ref mr, .ref mk, .int (nI km), .ref mt, .int (nI ln), .int (nI sp), .int (nI rs), .int (nI ws), .ref mv, .ref me])), (ms, .inl (g.2.1, 147, .inl fs)), (mv, .inl (g.2.1, 30, .inl f'))])) (va_A [(mo, .inr (6, [.ref ms, .ref mr, .ref mk, .int (nI km), .ref mt, .int (nI ln), .int (nI sp), .int (nI rs), .int (nI ws), .ref mv, .ref me])), (ms, .inl (g.2.1, 147, .inl fs)), (mv, .inl (g.2.1, 30, .inl fv))] sz)) 0 0 (va_A [(mo, .inr (6, [.ref ms, .ref mr, .ref mk, .int (nI km), .ref mt, .int (nI ln), .int (nI sp), .int (nI rs), .int (nI ws), .ref mv, .ref me])), (ms, .inl (g.2.1, 147, .inl fs)), (mv, .inl (g.2.1, 30, .inl fv))] sz) := by
  refine Met.ofW (cc := cX6_firstUnsafe) (maxL := 2) (ret := (some .int)) (by decide) rfl ?_
  intro p e s m args below meth c s₁ Bd hml hv
  obtain ⟨rfl, hsz, hP, hD0, hE⟩ := hv
  have hx := Bd.exec
  have hb := Bd.bytes
  have hr := Bd.returns
  have hts := atoms_spec (ws := wsX6_firstUnsafe) Bd.pre
  have hown : s.vm.findClass RX6 = some m.cls := findClass_of_methodNamed Bd.named
  have hlocks := Bd.notSynchronized
  have hK := hE.1
  subst hsz
  have hD := hD0.self (sz := s.heap.size)
  generalize hAe : va_A [(mo, .inr (6, [.ref ms, .ref mr, .ref mk, .int (nI km), .ref mt, .int (nI ln), .int (nI sp), .int (nI rs), .int (nI ws), .ref mv, .ref me])), (ms, .inl (g.2.1, 147, .inl fs)), (mv, .inl (g.2.1, 30, .inl fv))] s.heap.size = A at hD hE ⊢
  have hA : ∀ q : Nat, s.heap.size ≤ q → A q := fun q h => by rw [← hAe]; exact Or.inr h
  have hS : va_S A s.heap s.heap [] := va_S.rf
  have hl := lv_entry ([.ref mo, .int f]) (n := 2) (Nat.le_of_ble_eq_true rfl)
  rw [lg_entry_eq]
  generalize (lg_sl ([.ref mo, .int f]) ++ List.replicate (2 - (lg_sl ([.ref mo, .int f])).length) Slot.unset).toArray = ls at hl ⊢
  have hl : lv_has ls 2 [(0, .ref mo), (1, .int f)] := hl
  refine lv_aload_n hx hb dX6_firstUnsafe_0 rfl (lv_at hl 0 rfl) ?_
  refine lv_iload_n hx hb dX6_firstUnsafe_1 rfl (lv_at hl 1 rfl) ?_
  refine hk_csi (va_runV (As := [.int f]) (rest := []) ⟨hx, hb, hml, hown, hts⟩ (c6_isFault l D g ti mo ms mr mk mt mv me fs km ln sp rs ws n N o cd wt ty pa pb vo nm f hC hM) (cwV 1 hts gX6_firstUnsafe_X6_isFault rfl rfl rfl (by decide +kernel) ⟨Nat.le_of_ble_eq_true rfl, Nat.le_of_ble_eq_true rfl⟩) (hk_roV hE hP hS 6 rfl rfl [0, 1] rfl rfl) rfl rfl hl.1 rfl (lv_room (Nat.le_of_ble_eq_true rfl)) dX6_firstUnsafe_2 ⟨Nat.zero_le _, Nat.zero_le _⟩) (fun r_1 hr_2 => ?_)
  subst hr_2
  refine lv_if_eq (tgt := 16) hx hb dX6_firstUnsafe_5 (by decide) (fun c_3 => ?_) (fun c_3 => ?_)
  · have c_3h : (bI (hn (2 * N) f)) = (0 : Int32) := c_3
    exact absurd hf (by rw [bI_0.mp c_3]; decide)
  · have c_3h : ¬ (bI (hn (2 * N) f)) = (0 : Int32) := c_3
    refine lv_aload_n hx hb dX6_firstUnsafe_8 rfl (lv_at hl 0 rfl) ?_
    refine lv_iload_n hx hb dX6_firstUnsafe_9 rfl (lv_at hl 1 rfl) ?_
    refine hk_cmi (wr := []) (va_runV (As := [.int f]) (rest := []) ⟨hx, hb, hml, hown, hts⟩ (c6_unsafe l D g ti _ mo ms mr mk mt mv me fs km ln sp rs ws fv n N o cd wt ty pa pb vo nm f hC hM (fK_hn hf (by have := hC.2.2.2.1; have := hC.2.1; omega))) (cwV 1 hts gX6_firstUnsafe_X6_unsafe rfl rfl rfl (by decide +kernel) ⟨Nat.le_of_ble_eq_true rfl, Nat.le_of_ble_eq_true rfl⟩) (hk_inV hE hP hD hS hA 6 rfl rfl [0, 1, 2] (by decide) rfl rfl) rfl rfl hl.1 rfl (lv_room (Nat.le_of_ble_eq_true rfl)) dX6_firstUnsafe_10 ⟨Nat.zero_le _, Nat.zero_le _⟩) hP hD hS hA [0, 1, 2] [] rfl rfl (by decide) (by decide) (fun r_4 tv H locs hr_5 hP hD hS => ?_)
    try dsimp only at hr_5
    have hP : va_P D vwCl [(mo, .inr (6, [.ref ms, .ref mr, .ref mk, .int (nI km), .ref mt, .int (nI ln), .int (nI sp), .int (nI rs), .int (nI ws), .ref mv, .ref me])), (ms, .inl (g.2.1, 147, .inl fs)), (mv, .inl (g.2.1, 30, .inl tv))] H := hP
    have hD : va_D A [(mo, .inr (6, [.ref ms, .ref mr, .ref mk, .int (nI km), .ref mt, .int (nI ln), .int (nI sp), .int (nI rs), .int (nI ws), .ref mv, .ref me])), (ms, .inl (g.2.1, 147, .inl fs)), (mv, .inl (g.2.1, 30, .inl tv))] := hD
    refine lv_goto (tgt := 18) hx hb dX6_firstUnsafe_13 (by decide) ?_
    have hP9 := hP.sub (ws' := [(mo, .inr (6, [.ref ms, .ref mr, .ref mk, .int (nI km), .ref mt, .int (nI ln), .int (nI sp), .int (nI rs), .int (nI ws), .ref mv, .ref me])), (ms, .inl (g.2.1, 147, .inl fs)), (mv, .inl (g.2.1, 30, .inl tv))]) [0, 1, 2] rfl
    have hD9 := hD.sub (ws' := [(mo, .inr (6, [.ref ms, .ref mr, .ref mk, .int (nI km), .ref mt, .int (nI ln), .int (nI sp), .int (nI rs), .int (nI ws), .ref mv, .ref me])), (ms, .inl (g.2.1, 147, .inl fs)), (mv, .inl (g.2.1, 30, .inl tv))]) [0, 1, 2] (by decide) rfl
    exact W.iret (v := r_4) hx hb hr (fun tt ht hW => ⟨⟨_, tv, rfl, hr_5, by rw [ht]; exact hP9, hD9⟩, hS.F ht⟩) hS.2.2 dX6_firstUnsafe_18
set_option maxHeartbeats 4000000 in
set_option maxRecDepth 100000 in
theorem c6_firstUnsafe_no (l : Launch) (D : va_G) (g : hk_G) (ti : Nat) (mo : Nat) (ms : Nat) (mr : Nat) (mk : Nat) (mt : Nat) (mv : Nat) (me : Nat) (fs : Nat → Int32) (km : Nat) (ln : Nat) (sp : Nat) (rs : Nat) (ws : Nat) (n : Nat) (N : Nat) (o : Nat) (cd : Nat) (wt : Nat) (ty : Nat → Nat) (pa : Nat → Nat) (pb : Nat → Nat) (vo : Nat → Nat) (nm : Int64) (f : Int32) (hC : Cok n N o cd wt) (hM : MR n N o cd wt ty pa pb vo nm fs) (hv : hn (2 * N) f = false) : Met l yX6_firstUnsafe wsX6_firstUnsafe ({ frames := 2, cells := 0, slots := 0, locals := 46 }) (va_Pc [.ref mo, .int f] (hk_Ro D g ti [(mo, .inr (6, [.ref ms, .ref mr, .ref mk, .int (nI km), .ref mt, .int (nI ln), .int (nI sp), .int (nI rs), .int (nI ws), .ref mv, .ref me])), (ms, .inl (g.2.1, 147, .inl fs))])) (vp_Si (fun r => r = -101)) 0 0 (fun _ => False) := by
  refine Met.ofW (cc := cX6_firstUnsafe) (maxL := 2) (ret := (some .int)) (by decide) rfl ?_
  intro p e s m args below meth c s₁ Bd hml hv
  obtain ⟨rfl, hP, hE⟩ := hv
  have hx := Bd.exec
  have hb := Bd.bytes
  have hr := Bd.returns
  have hts := atoms_spec (ws := wsX6_firstUnsafe) Bd.pre
  have hown : s.vm.findClass RX6 = some m.cls := findClass_of_methodNamed Bd.named
  have hlocks := Bd.notSynchronized
  have hK := hE.1
  have hS : va_S (fun _ => False) s.heap s.heap [] := va_S.rf
  have hl := lv_entry ([.ref mo, .int f]) (n := 2) (Nat.le_of_ble_eq_true rfl)
  rw [lg_entry_eq]
  generalize (lg_sl ([.ref mo, .int f]) ++ List.replicate (2 - (lg_sl ([.ref mo, .int f])).length) Slot.unset).toArray = ls at hl ⊢
  have hl : lv_has ls 2 [(0, .ref mo), (1, .int f)] := hl
  refine lv_aload_n hx hb dX6_firstUnsafe_0 rfl (lv_at hl 0 rfl) ?_
  refine lv_iload_n hx hb dX6_firstUnsafe_1 rfl (lv_at hl 1 rfl) ?_
  refine hk_csi (va_runV (As := [.int f]) (rest := []) ⟨hx, hb, hml, hown, hts⟩ (c6_isFault l D g ti mo ms mr mk mt mv me fs km ln sp rs ws n N o cd wt ty pa pb vo nm f hC hM) (cwV 1 hts gX6_firstUnsafe_X6_isFault rfl rfl rfl (by decide +kernel) ⟨Nat.le_of_ble_eq_true rfl, Nat.le_of_ble_eq_true rfl⟩) (hk_roV hE hP hS 6 rfl rfl [0, 1] rfl rfl) rfl rfl hl.1 rfl (lv_room (Nat.le_of_ble_eq_true rfl)) dX6_firstUnsafe_2 ⟨Nat.zero_le _, Nat.zero_le _⟩) (fun r_1 hr_2 => ?_)
  subst hr_2
  refine lv_if_eq (tgt := 16) hx hb dX6_firstUnsafe_5 (by decide) (fun c_3 => ?_) (fun c_3 => ?_)
  · have c_3h : (bI (hn (2 * N) f)) = (0 : Int32) := c_3
    refine lv_bipush (v := (-101)) hx hb dX6_firstUnsafe_16 (by decide) ?_
    exact W.iret (v := (-101)) hx hb hr (fun tt ht hW => ⟨_, rfl, rfl, ht⟩) (fun _ h => by cases h) dX6_firstUnsafe_18
  · have c_3h : ¬ (bI (hn (2 * N) f)) = (0 : Int32) := c_3
    exact absurd (bI_0.mpr hv) c_3
