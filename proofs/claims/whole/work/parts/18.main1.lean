set_option maxHeartbeats 4000000 in
set_option maxRecDepth 100000 in
theorem c5_nodeCount (l : Launch) (D : va_G) (g : hk_G) (ti : Nat) (x : Nat) (y0 : Value) (y1 : Value) (y3 : Value) (y4 : Value) (a : Nat) (f0 : Value) (f1 : Value) (f2 : Value) (f3 : Value) (n : Nat) (N : Nat) (o : Nat) (nm : Int64) (cd : Nat) (wt : Nat)  : Met l yX5_nodeCount wsX5_nodeCount ({ frames := 0, cells := 0, slots := 0, locals := 0 }) (va_Pc [.ref x] (hk_Ro D g ti [(x, .inr (5, [y0, y1, .ref a, y3, y4])), (a, .inr (1, [f0, f1, f2, f3, .int (nI n), .int (nI N), .int (nI o), .long nm, .int (nI cd), .int (nI wt)]))])) (vp_Si (fun r => r = nI N)) 0 0 (fun _ => False) := by
  refine Met.ofW (cc := cX5_nodeCount) (maxL := 1) (ret := (some .int)) (by decide) rfl ?_
  intro p e s m args below meth c s₁ Bd hml hv
  obtain ⟨rfl, hP, hE⟩ := hv
  have hx := Bd.exec
  have hb := Bd.bytes
  have hr := Bd.returns
  have hts := atoms_spec (ws := wsX5_nodeCount) Bd.pre
  have hown : s.vm.findClass RX5 = some m.cls := findClass_of_methodNamed Bd.named
  have hlocks := Bd.notSynchronized
  have hK := hE.1
  have hi1 : ∀ w ∈ wsX10, w ∈ wsX5_nodeCount := fun w h => List.mem_cons_of_mem _ (List.mem_append_right _ h)
  have hi5 : ∀ w ∈ wsX50, w ∈ wsX5_nodeCount := fun w h => List.mem_cons_of_mem _ (List.mem_append_left _ (List.mem_append_right _ h))
  have hS : va_S (fun _ => False) s.heap s.heap [] := va_S.rf
  have hl := lv_entry ([.ref x]) (n := 1) (Nat.le_of_ble_eq_true rfl)
  rw [lg_entry_eq]
  generalize (lg_sl ([.ref x]) ++ List.replicate (1 - (lg_sl ([.ref x])).length) Slot.unset).toArray = ls at hl ⊢
  have hl : lv_has ls 1 [(0, .ref x)] := hl
  refine lv_aload_n hx hb dX5_nodeCount_0 rfl (lv_at hl 0 rfl) ?_
  refine va_get (D := D) (ci := 5) (v := .ref a) (C := RX5) (T := TX5) (N := 5) hx hb hts hi5 hown hK hP 0 rfl rfl 2 (by decide) (hts (.fieldLink RX5 28 "SelfCheckingCircuit" "circuit" "LSelfCheckingCircuit$Circuit;") (by decide +kernel)) (fun _ h9 => h9) rfl dX5_nodeCount_1 ?_
  refine va_getN (D := D) (ci := 1) (v := .int (nI N)) (C := RX1) (T := TX1) (N := 10) hx hb hts hi1 hown hK hP 1 rfl rfl 5 (by decide) (nf_X5_99 hE.2.1) (fun _ h9 => h9) rfl dX5_nodeCount_4 ?_
  exact W.iret (v := nI N) hx hb hr (fun tt ht hW => ⟨_, rfl, rfl, ht⟩) (fun _ h => by cases h) dX5_nodeCount_7
set_option maxHeartbeats 4000000 in
set_option maxRecDepth 100000 in
theorem c5_typeOf (l : Launch) (D : va_G) (g : hk_G) (ti : Nat) (x : Nat) (y0 : Value) (y1 : Value) (y3 : Value) (y4 : Value) (a : Nat) (t : Nat) (f1 : Value) (f2 : Value) (f3 : Value) (ft : Nat → Int32) (n : Nat) (N : Nat) (o : Nat) (nm : Int64) (cd : Nat) (wt : Nat) (j : Nat) (hC : Cok n N o cd wt) (hj : j < N) : Met l yX5_typeOf wsX5_typeOf ({ frames := 1, cells := 0, slots := 0, locals := 21 }) (va_Pc [.ref x, .int (nI j)] (hk_Ro D g ti [(x, .inr (5, [y0, y1, .ref a, y3, y4])), (a, .inr (1, [.ref t, f1, f2, f3, .int (nI n), .int (nI N), .int (nI o), .long nm, .int (nI cd), .int (nI wt)])), (t, .inl (g.2.1, 30, .inl ft))])) (vp_Si (fun r => r = ft j)) 0 0 (fun _ => False) := by
  refine Met.ofW (cc := cX5_typeOf) (maxL := 2) (ret := (some .int)) (by decide) rfl ?_
  intro p e s m args below meth c s₁ Bd hml hv
  obtain ⟨rfl, hP, hE⟩ := hv
  have hx := Bd.exec
  have hb := Bd.bytes
  have hr := Bd.returns
  have hts := atoms_spec (ws := wsX5_typeOf) Bd.pre
  have hown : s.vm.findClass RX5 = some m.cls := findClass_of_methodNamed Bd.named
  have hlocks := Bd.notSynchronized
  have hK := hE.1
  have hi5 : ∀ w ∈ wsX50, w ∈ wsX5_typeOf := fun w h => List.mem_cons_of_mem _ (List.mem_append_left _ (List.mem_append_right _ h))
  have hS : va_S (fun _ => False) s.heap s.heap [] := va_S.rf
  have hl := lv_entry ([.ref x, .int (nI j)]) (n := 2) (Nat.le_of_ble_eq_true rfl)
  rw [lg_entry_eq]
  generalize (lg_sl ([.ref x, .int (nI j)]) ++ List.replicate (2 - (lg_sl ([.ref x, .int (nI j)])).length) Slot.unset).toArray = ls at hl ⊢
  have hl : lv_has ls 2 [(0, .ref x), (1, .int (nI j))] := hl
  refine lv_aload_n hx hb dX5_typeOf_0 rfl (lv_at hl 0 rfl) ?_
  refine va_get (D := D) (ci := 5) (v := .ref a) (C := RX5) (T := TX5) (N := 5) hx hb hts hi5 hown hK hP 0 rfl rfl 2 (by decide) (hts (.fieldLink RX5 28 "SelfCheckingCircuit" "circuit" "LSelfCheckingCircuit$Circuit;") (by decide +kernel)) (fun _ h9 => h9) rfl dX5_typeOf_1 ?_
  refine lv_iload_n hx hb dX5_typeOf_4 rfl (lv_at hl 1 rfl) ?_
  refine hk_csi (va_runVN (As := [.int (nI j)]) (rest := []) ⟨hx, hb, hml, hown, hts⟩ (c1_hasNode l D g ti a (.ref t) f1 f2 f3 (nI n) (nI N) (nI o) nm (nI cd) (nI wt) (nI j) ) ⟨va_cnB 1 hts gX5_typeOf_X1_hasNode_n82 rfl rfl rfl (nm_X5_82 hE.2.1) (hts (.initialized RX1) (by decide +kernel)) (by decide +kernel) ⟨Nat.le_of_ble_eq_true rfl, Nat.le_of_ble_eq_true rfl⟩, hts (.instanceMethod yX1_hasNode) (by decide +kernel), hts (.selects RX1 yX1_hasNode yX1_hasNode) (by decide +kernel)⟩ (hk_roV hE hP hS 1 rfl rfl [1] rfl rfl) rfl rfl hl.1 rfl (lv_room (Nat.le_of_ble_eq_true rfl)) dX5_typeOf_5 ⟨Nat.zero_le _, Nat.zero_le _⟩) (fun r_1 hr_2 => ?_)
  subst hr_2
  refine hk_ti (bI (hn N (nI j))) (hn_eq N (nI j)) ?_
  refine lv_if_eq (tgt := 22) hx hb dX5_typeOf_8 (by decide) (fun c_3 => ?_) (fun c_3 => ?_)
  · have c_3h : bI (hn N (nI j)) = (0 : Int32) := c_3
    exact absurd (bI_0.mp c_3) (by rw [hn_t hj (by have := hC.2.2.2.1; have := hC.2.1; omega)]; decide)
  · have c_3h : ¬ bI (hn N (nI j)) = (0 : Int32) := c_3
    refine lv_aload_n hx hb dX5_typeOf_11 rfl (lv_at hl 0 rfl) ?_
    refine va_get (D := D) (ci := 5) (v := .ref a) (C := RX5) (T := TX5) (N := 5) hx hb hts hi5 hown hK hP 0 rfl rfl 2 (by decide) (hts (.fieldLink RX5 28 "SelfCheckingCircuit" "circuit" "LSelfCheckingCircuit$Circuit;") (by decide +kernel)) (fun _ h9 => h9) rfl dX5_typeOf_12 ?_
    refine lv_iload_n hx hb dX5_typeOf_15 rfl (lv_at hl 1 rfl) ?_
    refine hk_csi (va_runVN (As := [.int (nI j)]) (rest := []) ⟨hx, hb, hml, hown, hts⟩ (c1_type l D g ti a f1 f2 f3 t ft (nI n) (nI N) (nI o) nm (nI cd) (nI wt) (nI j) ) ⟨va_cnB 1 hts gX5_typeOf_X1_type_n105 rfl rfl rfl (nm_X5_105 hE.2.1) (hts (.initialized RX1) (by decide +kernel)) (by decide +kernel) ⟨Nat.le_of_ble_eq_true rfl, Nat.le_of_ble_eq_true rfl⟩, hts (.instanceMethod yX1_type) (by decide +kernel), hts (.selects RX1 yX1_type yX1_type) (by decide +kernel)⟩ (hk_roV hE hP hS 1 rfl rfl [1, 2] rfl rfl) rfl rfl hl.1 rfl (lv_room (Nat.le_of_ble_eq_true rfl)) dX5_typeOf_16 ⟨Nat.zero_le _, Nat.zero_le _⟩) (fun r_4 hr_5 => ?_)
    subst hr_5
    refine hk_ti (ft j) (hk_rd (n := 30) (by have := hC.2.2.2.1; have := hC.2.1; omega) (by decide) rfl) ?_
    refine lv_goto (tgt := 24) hx hb dX5_typeOf_19 (by decide) ?_
    exact W.iret (v := ft j) hx hb hr (fun tt ht hW => ⟨_, rfl, rfl, ht⟩) (fun _ h => by cases h) dX5_typeOf_24
set_option maxHeartbeats 4000000 in
set_option maxRecDepth 100000 in
theorem c5_typeOf_no (l : Launch) (D : va_G) (g : hk_G) (ti : Nat) (x : Nat) (y0 : Value) (y1 : Value) (y3 : Value) (y4 : Value) (a : Nat) (f0 : Value) (f1 : Value) (f2 : Value) (f3 : Value) (n : Nat) (N : Nat) (o : Nat) (nm : Int64) (cd : Nat) (wt : Nat) (v : Int32) (hv : hn N v = false) : Met l yX5_typeOf wsX5_typeOf ({ frames := 1, cells := 0, slots := 0, locals := 21 }) (va_Pc [.ref x, .int v] (hk_Ro D g ti [(x, .inr (5, [y0, y1, .ref a, y3, y4])), (a, .inr (1, [f0, f1, f2, f3, .int (nI n), .int (nI N), .int (nI o), .long nm, .int (nI cd), .int (nI wt)]))])) (vp_Si (fun r => r = -101)) 0 0 (fun _ => False) := by
  refine Met.ofW (cc := cX5_typeOf) (maxL := 2) (ret := (some .int)) (by decide) rfl ?_
  intro p e s m args below meth c s₁ Bd hml hv
  obtain ⟨rfl, hP, hE⟩ := hv
  have hx := Bd.exec
  have hb := Bd.bytes
  have hr := Bd.returns
  have hts := atoms_spec (ws := wsX5_typeOf) Bd.pre
  have hown : s.vm.findClass RX5 = some m.cls := findClass_of_methodNamed Bd.named
  have hlocks := Bd.notSynchronized
  have hK := hE.1
  have hi5 : ∀ w ∈ wsX50, w ∈ wsX5_typeOf := fun w h => List.mem_cons_of_mem _ (List.mem_append_left _ (List.mem_append_right _ h))
  have hS : va_S (fun _ => False) s.heap s.heap [] := va_S.rf
  have hl := lv_entry ([.ref x, .int v]) (n := 2) (Nat.le_of_ble_eq_true rfl)
  rw [lg_entry_eq]
  generalize (lg_sl ([.ref x, .int v]) ++ List.replicate (2 - (lg_sl ([.ref x, .int v])).length) Slot.unset).toArray = ls at hl ⊢
  have hl : lv_has ls 2 [(0, .ref x), (1, .int v)] := hl
  refine lv_aload_n hx hb dX5_typeOf_0 rfl (lv_at hl 0 rfl) ?_
  refine va_get (D := D) (ci := 5) (v := .ref a) (C := RX5) (T := TX5) (N := 5) hx hb hts hi5 hown hK hP 0 rfl rfl 2 (by decide) (hts (.fieldLink RX5 28 "SelfCheckingCircuit" "circuit" "LSelfCheckingCircuit$Circuit;") (by decide +kernel)) (fun _ h9 => h9) rfl dX5_typeOf_1 ?_
  refine lv_iload_n hx hb dX5_typeOf_4 rfl (lv_at hl 1 rfl) ?_
  refine hk_csi (va_runVN (As := [.int v]) (rest := []) ⟨hx, hb, hml, hown, hts⟩ (c1_hasNode l D g ti a f0 f1 f2 f3 (nI n) (nI N) (nI o) nm (nI cd) (nI wt) v ) ⟨va_cnB 1 hts gX5_typeOf_X1_hasNode_n82 rfl rfl rfl (nm_X5_82 hE.2.1) (hts (.initialized RX1) (by decide +kernel)) (by decide +kernel) ⟨Nat.le_of_ble_eq_true rfl, Nat.le_of_ble_eq_true rfl⟩, hts (.instanceMethod yX1_hasNode) (by decide +kernel), hts (.selects RX1 yX1_hasNode yX1_hasNode) (by decide +kernel)⟩ (hk_roV hE hP hS 1 rfl rfl [1] rfl rfl) rfl rfl hl.1 rfl (lv_room (Nat.le_of_ble_eq_true rfl)) dX5_typeOf_5 ⟨Nat.zero_le _, Nat.zero_le _⟩) (fun r_1 hr_2 => ?_)
  subst hr_2
  refine hk_ti (bI (hn N v)) (hn_eq N v) ?_
  refine lv_if_eq (tgt := 22) hx hb dX5_typeOf_8 (by decide) (fun c_3 => ?_) (fun c_3 => ?_)
  · have c_3h : bI (hn N v) = (0 : Int32) := c_3
    refine lv_bipush (v := (-101)) hx hb dX5_typeOf_22 (by decide) ?_
    exact W.iret (v := (-101)) hx hb hr (fun tt ht hW => ⟨_, rfl, rfl, ht⟩) (fun _ h => by cases h) dX5_typeOf_24
  · have c_3h : ¬ bI (hn N v) = (0 : Int32) := c_3
    exact absurd (bI_0.mpr hv) c_3
set_option maxHeartbeats 4000000 in
set_option maxRecDepth 100000 in
theorem c5_operandOf_0 (l : Launch) (D : va_G) (g : hk_G) (ti : Nat) (x : Nat) (y0 : Value) (y1 : Value) (y3 : Value) (y4 : Value) (a : Nat) (t : Nat) (f1 : Nat) (f2 : Nat) (v9 : Value) (ft : Nat → Int32) (fa : Nat → Int32) (fb : Nat → Int32) (n : Nat) (N : Nat) (o : Nat) (nm : Int64) (cd : Nat) (wt : Nat) (j : Nat) (hC : Cok n N o cd wt) (hj : j < N) : Met l yX5_operandOf wsX5_operandOf ({ frames := 1, cells := 0, slots := 0, locals := 21 }) (va_Pc [.ref x, .int (nI j), .int 0] (hk_Ro D g ti [(x, .inr (5, [y0, y1, .ref a, y3, y4])), (a, .inr (1, [.ref t, .ref f1, .ref f2, v9, .int (nI n), .int (nI N), .int (nI o), .long nm, .int (nI cd), .int (nI wt)])), (t, .inl (g.2.1, 30, .inl ft)), (f1, .inl (g.2.1, 30, .inl fa)), (f2, .inl (g.2.1, 30, .inl fb))])) (vp_Si (fun r => r = if (0 : Int32) < (if ft j = 6 then (0 : Int32) else if ft j = 5 then 1 else 2) then fa j else -104)) 0 0 (fun _ => False) := by
  refine Met.ofW (cc := cX5_operandOf) (maxL := 3) (ret := (some .int)) (by decide) rfl ?_
  intro p e s m args below meth c s₁ Bd hml hv
  obtain ⟨rfl, hP, hE⟩ := hv
  have hx := Bd.exec
  have hb := Bd.bytes
  have hr := Bd.returns
  have hts := atoms_spec (ws := wsX5_operandOf) Bd.pre
  have hown : s.vm.findClass RX5 = some m.cls := findClass_of_methodNamed Bd.named
  have hlocks := Bd.notSynchronized
  have hK := hE.1
  have hi5 : ∀ w ∈ wsX50, w ∈ wsX5_operandOf := fun w h => List.mem_cons_of_mem _ (List.mem_append_left _ (List.mem_append_right _ h))
  have hS : va_S (fun _ => False) s.heap s.heap [] := va_S.rf
  have hl := lv_entry ([.ref x, .int (nI j), .int 0]) (n := 3) (Nat.le_of_ble_eq_true rfl)
  rw [lg_entry_eq]
  generalize (lg_sl ([.ref x, .int (nI j), .int 0]) ++ List.replicate (3 - (lg_sl ([.ref x, .int (nI j), .int 0])).length) Slot.unset).toArray = ls at hl ⊢
  have hl : lv_has ls 3 [(0, .ref x), (1, .int (nI j)), (2, .int 0)] := hl
  refine lv_aload_n hx hb dX5_operandOf_0 rfl (lv_at hl 0 rfl) ?_
  refine va_get (D := D) (ci := 5) (v := .ref a) (C := RX5) (T := TX5) (N := 5) hx hb hts hi5 hown hK hP 0 rfl rfl 2 (by decide) (hts (.fieldLink RX5 28 "SelfCheckingCircuit" "circuit" "LSelfCheckingCircuit$Circuit;") (by decide +kernel)) (fun _ h9 => h9) rfl dX5_operandOf_1 ?_
  refine lv_iload_n hx hb dX5_operandOf_4 rfl (lv_at hl 1 rfl) ?_
  refine hk_csi (va_runVN (As := [.int (nI j)]) (rest := []) ⟨hx, hb, hml, hown, hts⟩ (c1_hasNode l D g ti a (.ref t) (.ref f1) (.ref f2) v9 (nI n) (nI N) (nI o) nm (nI cd) (nI wt) (nI j) ) ⟨va_cnB 1 hts gX5_operandOf_X1_hasNode_n82 rfl rfl rfl (nm_X5_82 hE.2.1) (hts (.initialized RX1) (by decide +kernel)) (by decide +kernel) ⟨Nat.le_of_ble_eq_true rfl, Nat.le_of_ble_eq_true rfl⟩, hts (.instanceMethod yX1_hasNode) (by decide +kernel), hts (.selects RX1 yX1_hasNode yX1_hasNode) (by decide +kernel)⟩ (hk_roV hE hP hS 1 rfl rfl [1] rfl rfl) rfl rfl hl.1 rfl (lv_room (Nat.le_of_ble_eq_true rfl)) dX5_operandOf_5 ⟨Nat.zero_le _, Nat.zero_le _⟩) (fun r_1 hr_2 => ?_)
  subst hr_2
  refine hk_ti (bI (hn N (nI j))) (hn_eq N (nI j)) ?_
  refine lv_if_eq (tgt := 20) hx hb dX5_operandOf_8 (by decide) (fun c_3 => ?_) (fun c_3 => ?_)
  · have c_3h : bI (hn N (nI j)) = (0 : Int32) := c_3
    exact absurd (bI_0.mp c_3) (by rw [hn_t hj (by have := hC.2.2.2.1; have := hC.2.1; omega)]; decide)
  · have c_3h : ¬ bI (hn N (nI j)) = (0 : Int32) := c_3
    refine lv_iload_n hx hb dX5_operandOf_11 rfl (lv_at hl 2 rfl) ?_
    refine lv_if_lt (tgt := 20) hx hb dX5_operandOf_12 (by decide) (fun c_4 => ?_) (fun c_4 => ?_)
    · have c_4h : (0 : Int32) < (0 : Int32) := c_4
      exact absurd c_4 (by decide)
    · have c_4h : ¬ (0 : Int32) < (0 : Int32) := c_4
      refine lv_iload_n hx hb dX5_operandOf_15 rfl (lv_at hl 2 rfl) ?_
      refine lv_iconst (v := 1) hx hb dX5_operandOf_16 (by decide) ?_
      refine lv_icmp_le (tgt := 23) hx hb dX5_operandOf_17 (by decide) (fun c_5 => ?_) (fun c_5 => ?_)
      · have c_5h : (0 : Int32) ≤ (1 : Int32) := c_5
        refine lv_iload_n hx hb dX5_operandOf_23 rfl (lv_at hl 2 rfl) ?_
        refine lv_aload_n hx hb dX5_operandOf_24 rfl (lv_at hl 0 rfl) ?_
        refine va_get (D := D) (ci := 5) (v := .ref a) (C := RX5) (T := TX5) (N := 5) hx hb hts hi5 hown hK hP 0 rfl rfl 2 (by decide) (hts (.fieldLink RX5 28 "SelfCheckingCircuit" "circuit" "LSelfCheckingCircuit$Circuit;") (by decide +kernel)) (fun _ h9 => h9) rfl dX5_operandOf_25 ?_
        refine lv_iload_n hx hb dX5_operandOf_28 rfl (lv_at hl 1 rfl) ?_
        refine hk_csi (va_runVN (As := [.int (nI j)]) (rest := [.int 0]) ⟨hx, hb, hml, hown, hts⟩ (c1_type l D g ti a (.ref f1) (.ref f2) v9 t ft (nI n) (nI N) (nI o) nm (nI cd) (nI wt) (nI j) ) ⟨va_cnB 1 hts gX5_operandOf_X1_type_n105 rfl rfl rfl (nm_X5_105 hE.2.1) (hts (.initialized RX1) (by decide +kernel)) (by decide +kernel) ⟨Nat.le_of_ble_eq_true rfl, Nat.le_of_ble_eq_true rfl⟩, hts (.instanceMethod yX1_type) (by decide +kernel), hts (.selects RX1 yX1_type yX1_type) (by decide +kernel)⟩ (hk_roV hE hP hS 1 rfl rfl [1, 2] rfl rfl) rfl rfl hl.1 rfl (lv_room (Nat.le_of_ble_eq_true rfl)) dX5_operandOf_29 ⟨Nat.zero_le _, Nat.zero_le _⟩) (fun r_6 hr_7 => ?_)
        subst hr_7
        refine hk_ti (ft j) (hk_rd (n := 30) (by have := hC.2.2.2.1; have := hC.2.1; omega) (by decide) rfl) ?_
        refine hk_csi (va_runS (As := [.int (ft j)]) (rest := [.int 0]) ⟨hx, hb, hml, hown, hts⟩ (c5_operandsOfType l D g ti (ft j) ) (va_cwS 1 hts gX5_operandOf_X5_operandsOfType rfl rfl rfl (by decide +kernel) ⟨Nat.le_of_ble_eq_true rfl, Nat.le_of_ble_eq_true rfl⟩) (hk_roS hE hP hS [] rfl) rfl rfl hl.1 rfl (lv_room (Nat.le_of_ble_eq_true rfl)) dX5_operandOf_32 ⟨Nat.zero_le _, Nat.zero_le _⟩) (fun r_8 hr_9 => ?_)
        subst hr_9
        refine hk_ti (if ft j = 6 then (0 : Int32) else if ft j = 5 then 1 else 2) (rfl) ?_
        refine lv_icmp_lt (tgt := 41) hx hb dX5_operandOf_35 (by decide) (fun c_10 => ?_) (fun c_10 => ?_)
        · have c_10h : (0 : Int32) < (if ft j = 6 then (0 : Int32) else if ft j = 5 then 1 else 2) := c_10
          refine lv_iload_n hx hb dX5_operandOf_41 rfl (lv_at hl 2 rfl) ?_
          refine lv_if_ne (tgt := 56) hx hb dX5_operandOf_42 (by decide) (fun c_11 => ?_) (fun c_11 => ?_)
          · have c_11h : ¬ (0 : Int32) = (0 : Int32) := c_11
            exact absurd c_11 (by decide)
          · have c_11h : (0 : Int32) = (0 : Int32) := c_11
            refine lv_aload_n hx hb dX5_operandOf_45 rfl (lv_at hl 0 rfl) ?_
            refine va_get (D := D) (ci := 5) (v := .ref a) (C := RX5) (T := TX5) (N := 5) hx hb hts hi5 hown hK hP 0 rfl rfl 2 (by decide) (hts (.fieldLink RX5 28 "SelfCheckingCircuit" "circuit" "LSelfCheckingCircuit$Circuit;") (by decide +kernel)) (fun _ h9 => h9) rfl dX5_operandOf_46 ?_
            refine lv_iload_n hx hb dX5_operandOf_49 rfl (lv_at hl 1 rfl) ?_
            refine hk_csi (va_runVN (As := [.int (nI j)]) (rest := []) ⟨hx, hb, hml, hown, hts⟩ (c1_first l D g ti a (.ref t) (.ref f2) v9 f1 fa (nI n) (nI N) (nI o) nm (nI cd) (nI wt) (nI j) ) ⟨va_cnB 1 hts gX5_operandOf_X1_first_n143 rfl rfl rfl (nm_X5_143 hE.2.1) (hts (.initialized RX1) (by decide +kernel)) (by decide +kernel) ⟨Nat.le_of_ble_eq_true rfl, Nat.le_of_ble_eq_true rfl⟩, hts (.instanceMethod yX1_first) (by decide +kernel), hts (.selects RX1 yX1_first yX1_first) (by decide +kernel)⟩ (hk_roV hE hP hS 1 rfl rfl [1, 3] rfl rfl) rfl rfl hl.1 rfl (lv_room (Nat.le_of_ble_eq_true rfl)) dX5_operandOf_50 ⟨Nat.zero_le _, Nat.zero_le _⟩) (fun r_12 hr_13 => ?_)
            subst hr_13
            refine hk_ti (fa j) (hk_rd (n := 30) (by have := hC.2.2.2.1; have := hC.2.1; omega) (by decide) rfl) ?_
            refine lv_goto (tgt := 64) hx hb dX5_operandOf_53 (by decide) ?_
            exact W.iret (v := fa j) hx hb hr (fun tt ht hW => ⟨_, rfl, by rw [if_pos c_10], ht⟩) (fun _ h => by cases h) dX5_operandOf_64
        · have c_10h : ¬ (0 : Int32) < (if ft j = 6 then (0 : Int32) else if ft j = 5 then 1 else 2) := c_10
          refine lv_bipush (v := (-104)) hx hb dX5_operandOf_38 (by decide) ?_
          exact W.iret (v := (-104)) hx hb hr (fun tt ht hW => ⟨_, rfl, by rw [if_neg c_10], ht⟩) (fun _ h => by cases h) dX5_operandOf_40
      · have c_5h : ¬ (0 : Int32) ≤ (1 : Int32) := c_5
        exact absurd c_5 (by decide)
set_option maxHeartbeats 4000000 in
set_option maxRecDepth 100000 in
theorem c5_operandOf_1 (l : Launch) (D : va_G) (g : hk_G) (ti : Nat) (x : Nat) (y0 : Value) (y1 : Value) (y3 : Value) (y4 : Value) (a : Nat) (t : Nat) (f1 : Nat) (f2 : Nat) (v9 : Value) (ft : Nat → Int32) (fa : Nat → Int32) (fb : Nat → Int32) (n : Nat) (N : Nat) (o : Nat) (nm : Int64) (cd : Nat) (wt : Nat) (j : Nat) (hC : Cok n N o cd wt) (hj : j < N) : Met l yX5_operandOf wsX5_operandOf ({ frames := 1, cells := 0, slots := 0, locals := 21 }) (va_Pc [.ref x, .int (nI j), .int 1] (hk_Ro D g ti [(x, .inr (5, [y0, y1, .ref a, y3, y4])), (a, .inr (1, [.ref t, .ref f1, .ref f2, v9, .int (nI n), .int (nI N), .int (nI o), .long nm, .int (nI cd), .int (nI wt)])), (t, .inl (g.2.1, 30, .inl ft)), (f1, .inl (g.2.1, 30, .inl fa)), (f2, .inl (g.2.1, 30, .inl fb))])) (vp_Si (fun r => r = if (1 : Int32) < (if ft j = 6 then (0 : Int32) else if ft j = 5 then 1 else 2) then fb j else -104)) 0 0 (fun _ => False) := by
  refine Met.ofW (cc := cX5_operandOf) (maxL := 3) (ret := (some .int)) (by decide) rfl ?_
  intro p e s m args below meth c s₁ Bd hml hv
  obtain ⟨rfl, hP, hE⟩ := hv
  have hx := Bd.exec
  have hb := Bd.bytes
  have hr := Bd.returns
  have hts := atoms_spec (ws := wsX5_operandOf) Bd.pre
  have hown : s.vm.findClass RX5 = some m.cls := findClass_of_methodNamed Bd.named
  have hlocks := Bd.notSynchronized
  have hK := hE.1
  have hi5 : ∀ w ∈ wsX50, w ∈ wsX5_operandOf := fun w h => List.mem_cons_of_mem _ (List.mem_append_left _ (List.mem_append_right _ h))
  have hS : va_S (fun _ => False) s.heap s.heap [] := va_S.rf
  have hl := lv_entry ([.ref x, .int (nI j), .int 1]) (n := 3) (Nat.le_of_ble_eq_true rfl)
  rw [lg_entry_eq]
  generalize (lg_sl ([.ref x, .int (nI j), .int 1]) ++ List.replicate (3 - (lg_sl ([.ref x, .int (nI j), .int 1])).length) Slot.unset).toArray = ls at hl ⊢
  have hl : lv_has ls 3 [(0, .ref x), (1, .int (nI j)), (2, .int 1)] := hl
  refine lv_aload_n hx hb dX5_operandOf_0 rfl (lv_at hl 0 rfl) ?_
  refine va_get (D := D) (ci := 5) (v := .ref a) (C := RX5) (T := TX5) (N := 5) hx hb hts hi5 hown hK hP 0 rfl rfl 2 (by decide) (hts (.fieldLink RX5 28 "SelfCheckingCircuit" "circuit" "LSelfCheckingCircuit$Circuit;") (by decide +kernel)) (fun _ h9 => h9) rfl dX5_operandOf_1 ?_
  refine lv_iload_n hx hb dX5_operandOf_4 rfl (lv_at hl 1 rfl) ?_
  refine hk_csi (va_runVN (As := [.int (nI j)]) (rest := []) ⟨hx, hb, hml, hown, hts⟩ (c1_hasNode l D g ti a (.ref t) (.ref f1) (.ref f2) v9 (nI n) (nI N) (nI o) nm (nI cd) (nI wt) (nI j) ) ⟨va_cnB 1 hts gX5_operandOf_X1_hasNode_n82 rfl rfl rfl (nm_X5_82 hE.2.1) (hts (.initialized RX1) (by decide +kernel)) (by decide +kernel) ⟨Nat.le_of_ble_eq_true rfl, Nat.le_of_ble_eq_true rfl⟩, hts (.instanceMethod yX1_hasNode) (by decide +kernel), hts (.selects RX1 yX1_hasNode yX1_hasNode) (by decide +kernel)⟩ (hk_roV hE hP hS 1 rfl rfl [1] rfl rfl) rfl rfl hl.1 rfl (lv_room (Nat.le_of_ble_eq_true rfl)) dX5_operandOf_5 ⟨Nat.zero_le _, Nat.zero_le _⟩) (fun r_1 hr_2 => ?_)
  subst hr_2
  refine hk_ti (bI (hn N (nI j))) (hn_eq N (nI j)) ?_
  refine lv_if_eq (tgt := 20) hx hb dX5_operandOf_8 (by decide) (fun c_3 => ?_) (fun c_3 => ?_)
  · have c_3h : bI (hn N (nI j)) = (0 : Int32) := c_3
    exact absurd (bI_0.mp c_3) (by rw [hn_t hj (by have := hC.2.2.2.1; have := hC.2.1; omega)]; decide)
  · have c_3h : ¬ bI (hn N (nI j)) = (0 : Int32) := c_3
    refine lv_iload_n hx hb dX5_operandOf_11 rfl (lv_at hl 2 rfl) ?_
    refine lv_if_lt (tgt := 20) hx hb dX5_operandOf_12 (by decide) (fun c_4 => ?_) (fun c_4 => ?_)
    · have c_4h : (1 : Int32) < (0 : Int32) := c_4
      exact absurd c_4 (by decide)
    · have c_4h : ¬ (1 : Int32) < (0 : Int32) := c_4
      refine lv_iload_n hx hb dX5_operandOf_15 rfl (lv_at hl 2 rfl) ?_
      refine lv_iconst (v := 1) hx hb dX5_operandOf_16 (by decide) ?_
      refine lv_icmp_le (tgt := 23) hx hb dX5_operandOf_17 (by decide) (fun c_5 => ?_) (fun c_5 => ?_)
      · have c_5h : (1 : Int32) ≤ (1 : Int32) := c_5
        refine lv_iload_n hx hb dX5_operandOf_23 rfl (lv_at hl 2 rfl) ?_
        refine lv_aload_n hx hb dX5_operandOf_24 rfl (lv_at hl 0 rfl) ?_
        refine va_get (D := D) (ci := 5) (v := .ref a) (C := RX5) (T := TX5) (N := 5) hx hb hts hi5 hown hK hP 0 rfl rfl 2 (by decide) (hts (.fieldLink RX5 28 "SelfCheckingCircuit" "circuit" "LSelfCheckingCircuit$Circuit;") (by decide +kernel)) (fun _ h9 => h9) rfl dX5_operandOf_25 ?_
        refine lv_iload_n hx hb dX5_operandOf_28 rfl (lv_at hl 1 rfl) ?_
        refine hk_csi (va_runVN (As := [.int (nI j)]) (rest := [.int 1]) ⟨hx, hb, hml, hown, hts⟩ (c1_type l D g ti a (.ref f1) (.ref f2) v9 t ft (nI n) (nI N) (nI o) nm (nI cd) (nI wt) (nI j) ) ⟨va_cnB 1 hts gX5_operandOf_X1_type_n105 rfl rfl rfl (nm_X5_105 hE.2.1) (hts (.initialized RX1) (by decide +kernel)) (by decide +kernel) ⟨Nat.le_of_ble_eq_true rfl, Nat.le_of_ble_eq_true rfl⟩, hts (.instanceMethod yX1_type) (by decide +kernel), hts (.selects RX1 yX1_type yX1_type) (by decide +kernel)⟩ (hk_roV hE hP hS 1 rfl rfl [1, 2] rfl rfl) rfl rfl hl.1 rfl (lv_room (Nat.le_of_ble_eq_true rfl)) dX5_operandOf_29 ⟨Nat.zero_le _, Nat.zero_le _⟩) (fun r_6 hr_7 => ?_)
        subst hr_7
        refine hk_ti (ft j) (hk_rd (n := 30) (by have := hC.2.2.2.1; have := hC.2.1; omega) (by decide) rfl) ?_
        refine hk_csi (va_runS (As := [.int (ft j)]) (rest := [.int 1]) ⟨hx, hb, hml, hown, hts⟩ (c5_operandsOfType l D g ti (ft j) ) (va_cwS 1 hts gX5_operandOf_X5_operandsOfType rfl rfl rfl (by decide +kernel) ⟨Nat.le_of_ble_eq_true rfl, Nat.le_of_ble_eq_true rfl⟩) (hk_roS hE hP hS [] rfl) rfl rfl hl.1 rfl (lv_room (Nat.le_of_ble_eq_true rfl)) dX5_operandOf_32 ⟨Nat.zero_le _, Nat.zero_le _⟩) (fun r_8 hr_9 => ?_)
        subst hr_9
        refine hk_ti (if ft j = 6 then (0 : Int32) else if ft j = 5 then 1 else 2) (rfl) ?_
        refine lv_icmp_lt (tgt := 41) hx hb dX5_operandOf_35 (by decide) (fun c_10 => ?_) (fun c_10 => ?_)
        · have c_10h : (1 : Int32) < (if ft j = 6 then (0 : Int32) else if ft j = 5 then 1 else 2) := c_10
          refine lv_iload_n hx hb dX5_operandOf_41 rfl (lv_at hl 2 rfl) ?_
          refine lv_if_ne (tgt := 56) hx hb dX5_operandOf_42 (by decide) (fun c_11 => ?_) (fun c_11 => ?_)
          · have c_11h : ¬ (1 : Int32) = (0 : Int32) := c_11
            refine lv_aload_n hx hb dX5_operandOf_56 rfl (lv_at hl 0 rfl) ?_
            refine va_get (D := D) (ci := 5) (v := .ref a) (C := RX5) (T := TX5) (N := 5) hx hb hts hi5 hown hK hP 0 rfl rfl 2 (by decide) (hts (.fieldLink RX5 28 "SelfCheckingCircuit" "circuit" "LSelfCheckingCircuit$Circuit;") (by decide +kernel)) (fun _ h9 => h9) rfl dX5_operandOf_57 ?_
            refine lv_iload_n hx hb dX5_operandOf_60 rfl (lv_at hl 1 rfl) ?_
            refine hk_csi (va_runVN (As := [.int (nI j)]) (rest := []) ⟨hx, hb, hml, hown, hts⟩ (c1_second l D g ti a (.ref t) (.ref f1) v9 f2 fb (nI n) (nI N) (nI o) nm (nI cd) (nI wt) (nI j) ) ⟨va_cnB 1 hts gX5_operandOf_X1_second_n146 rfl rfl rfl (nm_X5_146 hE.2.1) (hts (.initialized RX1) (by decide +kernel)) (by decide +kernel) ⟨Nat.le_of_ble_eq_true rfl, Nat.le_of_ble_eq_true rfl⟩, hts (.instanceMethod yX1_second) (by decide +kernel), hts (.selects RX1 yX1_second yX1_second) (by decide +kernel)⟩ (hk_roV hE hP hS 1 rfl rfl [1, 4] rfl rfl) rfl rfl hl.1 rfl (lv_room (Nat.le_of_ble_eq_true rfl)) dX5_operandOf_61 ⟨Nat.zero_le _, Nat.zero_le _⟩) (fun r_12 hr_13 => ?_)
            subst hr_13
            refine hk_ti (fb j) (hk_rd (n := 30) (by have := hC.2.2.2.1; have := hC.2.1; omega) (by decide) rfl) ?_
            exact W.iret (v := fb j) hx hb hr (fun tt ht hW => ⟨_, rfl, by rw [if_pos c_10], ht⟩) (fun _ h => by cases h) dX5_operandOf_64
          · have c_11h : (1 : Int32) = (0 : Int32) := c_11
            exact absurd c_11 (by decide)
        · have c_10h : ¬ (1 : Int32) < (if ft j = 6 then (0 : Int32) else if ft j = 5 then 1 else 2) := c_10
          refine lv_bipush (v := (-104)) hx hb dX5_operandOf_38 (by decide) ?_
          exact W.iret (v := (-104)) hx hb hr (fun tt ht hW => ⟨_, rfl, by rw [if_neg c_10], ht⟩) (fun _ h => by cases h) dX5_operandOf_40
      · have c_5h : ¬ (1 : Int32) ≤ (1 : Int32) := c_5
        exact absurd c_5 (by decide)
theorem hn_2 {i : Int32} (h0 : ¬ i < 0) (h1 : i ≤ 1) : hn 2 i = true := by
  obtain ⟨j, hj, rfl⟩ := nI_of h0
  exact hn_t (by have := (nI_leI (b := 1) hj (by omega)).mp h1; omega) (by decide)
set_option maxHeartbeats 4000000 in
set_option maxRecDepth 100000 in
theorem c5_operandOf_no (l : Launch) (D : va_G) (g : hk_G) (ti : Nat) (x : Nat) (y0 : Value) (y1 : Value) (y3 : Value) (y4 : Value) (a : Nat) (f0 : Value) (f1 : Value) (f2 : Value) (f3 : Value) (n : Nat) (N : Nat) (o : Nat) (nm : Int64) (cd : Nat) (wt : Nat) (v : Int32) (i : Int32) (hv : hn N v = false ∨ hn 2 i = false) : Met l yX5_operandOf wsX5_operandOf ({ frames := 1, cells := 0, slots := 0, locals := 21 }) (va_Pc [.ref x, .int v, .int i] (hk_Ro D g ti [(x, .inr (5, [y0, y1, .ref a, y3, y4])), (a, .inr (1, [f0, f1, f2, f3, .int (nI n), .int (nI N), .int (nI o), .long nm, .int (nI cd), .int (nI wt)]))])) (vp_Si (fun r => r = -101)) 0 0 (fun _ => False) := by
  refine Met.ofW (cc := cX5_operandOf) (maxL := 3) (ret := (some .int)) (by decide) rfl ?_
  intro p e s m args below meth c s₁ Bd hml hv
  obtain ⟨rfl, hP, hE⟩ := hv
  have hx := Bd.exec
  have hb := Bd.bytes
  have hr := Bd.returns
  have hts := atoms_spec (ws := wsX5_operandOf) Bd.pre
  have hown : s.vm.findClass RX5 = some m.cls := findClass_of_methodNamed Bd.named
  have hlocks := Bd.notSynchronized
  have hK := hE.1
  have hi5 : ∀ w ∈ wsX50, w ∈ wsX5_operandOf := fun w h => List.mem_cons_of_mem _ (List.mem_append_left _ (List.mem_append_right _ h))
  have hS : va_S (fun _ => False) s.heap s.heap [] := va_S.rf
  have hl := lv_entry ([.ref x, .int v, .int i]) (n := 3) (Nat.le_of_ble_eq_true rfl)
  rw [lg_entry_eq]
  generalize (lg_sl ([.ref x, .int v, .int i]) ++ List.replicate (3 - (lg_sl ([.ref x, .int v, .int i])).length) Slot.unset).toArray = ls at hl ⊢
  have hl : lv_has ls 3 [(0, .ref x), (1, .int v), (2, .int i)] := hl
  refine lv_aload_n hx hb dX5_operandOf_0 rfl (lv_at hl 0 rfl) ?_
  refine va_get (D := D) (ci := 5) (v := .ref a) (C := RX5) (T := TX5) (N := 5) hx hb hts hi5 hown hK hP 0 rfl rfl 2 (by decide) (hts (.fieldLink RX5 28 "SelfCheckingCircuit" "circuit" "LSelfCheckingCircuit$Circuit;") (by decide +kernel)) (fun _ h9 => h9) rfl dX5_operandOf_1 ?_
  refine lv_iload_n hx hb dX5_operandOf_4 rfl (lv_at hl 1 rfl) ?_
  refine hk_csi (va_runVN (As := [.int v]) (rest := []) ⟨hx, hb, hml, hown, hts⟩ (c1_hasNode l D g ti a f0 f1 f2 f3 (nI n) (nI N) (nI o) nm (nI cd) (nI wt) v ) ⟨va_cnB 1 hts gX5_operandOf_X1_hasNode_n82 rfl rfl rfl (nm_X5_82 hE.2.1) (hts (.initialized RX1) (by decide +kernel)) (by decide +kernel) ⟨Nat.le_of_ble_eq_true rfl, Nat.le_of_ble_eq_true rfl⟩, hts (.instanceMethod yX1_hasNode) (by decide +kernel), hts (.selects RX1 yX1_hasNode yX1_hasNode) (by decide +kernel)⟩ (hk_roV hE hP hS 1 rfl rfl [1] rfl rfl) rfl rfl hl.1 rfl (lv_room (Nat.le_of_ble_eq_true rfl)) dX5_operandOf_5 ⟨Nat.zero_le _, Nat.zero_le _⟩) (fun r_1 hr_2 => ?_)
  subst hr_2
  refine hk_ti (bI (hn N v)) (hn_eq N v) ?_
  refine lv_if_eq (tgt := 20) hx hb dX5_operandOf_8 (by decide) (fun c_3 => ?_) (fun c_3 => ?_)
  · have c_3h : bI (hn N v) = (0 : Int32) := c_3
    refine lv_bipush (v := (-101)) hx hb dX5_operandOf_20 (by decide) ?_
    exact W.iret (v := (-101)) hx hb hr (fun tt ht hW => ⟨_, rfl, rfl, ht⟩) (fun _ h => by cases h) dX5_operandOf_22
  · have c_3h : ¬ bI (hn N v) = (0 : Int32) := c_3
    refine lv_iload_n hx hb dX5_operandOf_11 rfl (lv_at hl 2 rfl) ?_
    refine lv_if_lt (tgt := 20) hx hb dX5_operandOf_12 (by decide) (fun c_4 => ?_) (fun c_4 => ?_)
    · have c_4h : i < (0 : Int32) := c_4
      refine lv_bipush (v := (-101)) hx hb dX5_operandOf_20 (by decide) ?_
      exact W.iret (v := (-101)) hx hb hr (fun tt ht hW => ⟨_, rfl, rfl, ht⟩) (fun _ h => by cases h) dX5_operandOf_22
    · have c_4h : ¬ i < (0 : Int32) := c_4
      refine lv_iload_n hx hb dX5_operandOf_15 rfl (lv_at hl 2 rfl) ?_
      refine lv_iconst (v := 1) hx hb dX5_operandOf_16 (by decide) ?_
      refine lv_icmp_le (tgt := 23) hx hb dX5_operandOf_17 (by decide) (fun c_5 => ?_) (fun c_5 => ?_)
      · have c_5h : i ≤ (1 : Int32) := c_5
        exact absurd (hv.resolve_left (by rw [bI_n0 c_3]; decide)) (by rw [show hn 2 i = true from hn_2 c_4 c_5]; decide)
      · have c_5h : ¬ i ≤ (1 : Int32) := c_5
        refine lv_bipush (v := (-101)) hx hb dX5_operandOf_20 (by decide) ?_
        exact W.iret (v := (-101)) hx hb hr (fun tt ht hW => ⟨_, rfl, rfl, ht⟩) (fun _ h => by cases h) dX5_operandOf_22
set_option maxHeartbeats 4000000 in
set_option maxRecDepth 100000 in
theorem c5_outputNode (l : Launch) (D : va_G) (g : hk_G) (ti : Nat) (x : Nat) (y0 : Value) (y1 : Value) (y3 : Value) (y4 : Value) (a : Nat) (f0 : Value) (f1 : Value) (f2 : Value) (on : Nat) (fo : Nat → Int32) (n : Nat) (N : Nat) (o : Nat) (nm : Int64) (cd : Nat) (wt : Nat) (k : Nat) (hC : Cok n N o cd wt) (hk : k < o) : Met l yX5_outputNode wsX5_outputNode ({ frames := 1, cells := 0, slots := 0, locals := 21 }) (va_Pc [.ref x, .int (nI k)] (hk_Ro D g ti [(x, .inr (5, [y0, y1, .ref a, y3, y4])), (a, .inr (1, [f0, f1, f2, .ref on, .int (nI n), .int (nI N), .int (nI o), .long nm, .int (nI cd), .int (nI wt)])), (on, .inl (g.2.1, 6, .inl fo))])) (vp_Si (fun r => r = fo k)) 0 0 (fun _ => False) := by
  refine Met.ofW (cc := cX5_outputNode) (maxL := 2) (ret := (some .int)) (by decide) rfl ?_
  intro p e s m args below meth c s₁ Bd hml hv
  obtain ⟨rfl, hP, hE⟩ := hv
  have hx := Bd.exec
  have hb := Bd.bytes
  have hr := Bd.returns
  have hts := atoms_spec (ws := wsX5_outputNode) Bd.pre
  have hown : s.vm.findClass RX5 = some m.cls := findClass_of_methodNamed Bd.named
  have hlocks := Bd.notSynchronized
  have hK := hE.1
  have hi1 : ∀ w ∈ wsX10, w ∈ wsX5_outputNode := fun w h => List.mem_cons_of_mem _ (List.mem_append_right _ h)
  have hi5 : ∀ w ∈ wsX50, w ∈ wsX5_outputNode := fun w h => List.mem_cons_of_mem _ (List.mem_append_left _ (List.mem_append_right _ h))
  have hS : va_S (fun _ => False) s.heap s.heap [] := va_S.rf
  have hl := lv_entry ([.ref x, .int (nI k)]) (n := 2) (Nat.le_of_ble_eq_true rfl)
  rw [lg_entry_eq]
  generalize (lg_sl ([.ref x, .int (nI k)]) ++ List.replicate (2 - (lg_sl ([.ref x, .int (nI k)])).length) Slot.unset).toArray = ls at hl ⊢
  have hl : lv_has ls 2 [(0, .ref x), (1, .int (nI k))] := hl
  refine lv_iload_n hx hb dX5_outputNode_0 rfl (lv_at hl 1 rfl) ?_
  refine lv_if_lt (tgt := 15) hx hb dX5_outputNode_1 (by decide) (fun c_1 => ?_) (fun c_1 => ?_)
  · have c_1h : nI k < (0 : Int32) := c_1
    exact absurd c_1 (nI_pos (by have := hC.2.2.2.2.1; omega))
  · have c_1h : ¬ nI k < (0 : Int32) := c_1
    refine lv_iload_n hx hb dX5_outputNode_4 rfl (lv_at hl 1 rfl) ?_
    refine lv_aload_n hx hb dX5_outputNode_5 rfl (lv_at hl 0 rfl) ?_
    refine va_get (D := D) (ci := 5) (v := .ref a) (C := RX5) (T := TX5) (N := 5) hx hb hts hi5 hown hK hP 0 rfl rfl 2 (by decide) (hts (.fieldLink RX5 28 "SelfCheckingCircuit" "circuit" "LSelfCheckingCircuit$Circuit;") (by decide +kernel)) (fun _ h9 => h9) rfl dX5_outputNode_6 ?_
    refine va_getN (D := D) (ci := 1) (v := .int (nI o)) (C := RX1) (T := TX1) (N := 10) hx hb hts hi1 hown hK hP 1 rfl rfl 6 (by decide) (nf_X5_109 hE.2.1) (fun _ h9 => h9) rfl dX5_outputNode_9 ?_
    refine lv_icmp_lt (tgt := 18) hx hb dX5_outputNode_12 (by decide) (fun c_2 => ?_) (fun c_2 => ?_)
    · have c_2h : nI k < nI o := c_2
      refine lv_aload_n hx hb dX5_outputNode_18 rfl (lv_at hl 0 rfl) ?_
      refine va_get (D := D) (ci := 5) (v := .ref a) (C := RX5) (T := TX5) (N := 5) hx hb hts hi5 hown hK hP 0 rfl rfl 2 (by decide) (hts (.fieldLink RX5 28 "SelfCheckingCircuit" "circuit" "LSelfCheckingCircuit$Circuit;") (by decide +kernel)) (fun _ h9 => h9) rfl dX5_outputNode_19 ?_
      refine lv_iload_n hx hb dX5_outputNode_22 rfl (lv_at hl 1 rfl) ?_
      refine hk_csi (va_runVN (As := [.int (nI k)]) (rest := []) ⟨hx, hb, hml, hown, hts⟩ (c1_nodeOfOutput l D g ti a f0 f1 f2 on fo (nI n) (nI N) (nI o) nm (nI cd) (nI wt) (nI k) ) ⟨va_cnB 1 hts gX5_outputNode_X1_nodeOfOutput_n149 rfl rfl rfl (nm_X5_149 hE.2.1) (hts (.initialized RX1) (by decide +kernel)) (by decide +kernel) ⟨Nat.le_of_ble_eq_true rfl, Nat.le_of_ble_eq_true rfl⟩, hts (.instanceMethod yX1_nodeOfOutput) (by decide +kernel), hts (.selects RX1 yX1_nodeOfOutput yX1_nodeOfOutput) (by decide +kernel)⟩ (hk_roV hE hP hS 1 rfl rfl [1, 2] rfl rfl) rfl rfl hl.1 rfl (lv_room (Nat.le_of_ble_eq_true rfl)) dX5_outputNode_23 ⟨Nat.zero_le _, Nat.zero_le _⟩) (fun r_3 hr_4 => ?_)
      subst hr_4
      refine hk_ti (fo k) (hk_rd (n := 6) (by have := hC.2.2.2.2.1; omega) (by decide) rfl) ?_
      exact W.iret (v := fo k) hx hb hr (fun tt ht hW => ⟨_, rfl, rfl, ht⟩) (fun _ h => by cases h) dX5_outputNode_26
    · have c_2h : ¬ nI k < nI o := c_2
      exact absurd (nI_lt hk (by have := hC.2.2.2.2.1; omega)) c_2
set_option maxHeartbeats 4000000 in
set_option maxRecDepth 100000 in
theorem c5_outputNode_no (l : Launch) (D : va_G) (g : hk_G) (ti : Nat) (x : Nat) (y0 : Value) (y1 : Value) (y3 : Value) (y4 : Value) (a : Nat) (f0 : Value) (f1 : Value) (f2 : Value) (f3 : Value) (n : Nat) (N : Nat) (o : Nat) (nm : Int64) (cd : Nat) (wt : Nat) (v : Int32) (hv : hn o v = false) : Met l yX5_outputNode wsX5_outputNode ({ frames := 0, cells := 0, slots := 0, locals := 0 }) (va_Pc [.ref x, .int v] (hk_Ro D g ti [(x, .inr (5, [y0, y1, .ref a, y3, y4])), (a, .inr (1, [f0, f1, f2, f3, .int (nI n), .int (nI N), .int (nI o), .long nm, .int (nI cd), .int (nI wt)]))])) (vp_Si (fun r => r = -101)) 0 0 (fun _ => False) := by
  refine Met.ofW (cc := cX5_outputNode) (maxL := 2) (ret := (some .int)) (by decide) rfl ?_
  intro p e s m args below meth c s₁ Bd hml hv
  obtain ⟨rfl, hP, hE⟩ := hv
  have hx := Bd.exec
  have hb := Bd.bytes
  have hr := Bd.returns
  have hts := atoms_spec (ws := wsX5_outputNode) Bd.pre
  have hown : s.vm.findClass RX5 = some m.cls := findClass_of_methodNamed Bd.named
  have hlocks := Bd.notSynchronized
  have hK := hE.1
  have hi1 : ∀ w ∈ wsX10, w ∈ wsX5_outputNode := fun w h => List.mem_cons_of_mem _ (List.mem_append_right _ h)
  have hi5 : ∀ w ∈ wsX50, w ∈ wsX5_outputNode := fun w h => List.mem_cons_of_mem _ (List.mem_append_left _ (List.mem_append_right _ h))
  have hS : va_S (fun _ => False) s.heap s.heap [] := va_S.rf
  have hl := lv_entry ([.ref x, .int v]) (n := 2) (Nat.le_of_ble_eq_true rfl)
  rw [lg_entry_eq]
  generalize (lg_sl ([.ref x, .int v]) ++ List.replicate (2 - (lg_sl ([.ref x, .int v])).length) Slot.unset).toArray = ls at hl ⊢
  have hl : lv_has ls 2 [(0, .ref x), (1, .int v)] := hl
  refine lv_iload_n hx hb dX5_outputNode_0 rfl (lv_at hl 1 rfl) ?_
  refine lv_if_lt (tgt := 15) hx hb dX5_outputNode_1 (by decide) (fun c_1 => ?_) (fun c_1 => ?_)
  · have c_1h : v < (0 : Int32) := c_1
    refine lv_bipush (v := (-101)) hx hb dX5_outputNode_15 (by decide) ?_
    exact W.iret (v := (-101)) hx hb hr (fun tt ht hW => ⟨_, rfl, rfl, ht⟩) (fun _ h => by cases h) dX5_outputNode_17
  · have c_1h : ¬ v < (0 : Int32) := c_1
    refine lv_iload_n hx hb dX5_outputNode_4 rfl (lv_at hl 1 rfl) ?_
    refine lv_aload_n hx hb dX5_outputNode_5 rfl (lv_at hl 0 rfl) ?_
    refine va_get (D := D) (ci := 5) (v := .ref a) (C := RX5) (T := TX5) (N := 5) hx hb hts hi5 hown hK hP 0 rfl rfl 2 (by decide) (hts (.fieldLink RX5 28 "SelfCheckingCircuit" "circuit" "LSelfCheckingCircuit$Circuit;") (by decide +kernel)) (fun _ h9 => h9) rfl dX5_outputNode_6 ?_
    refine va_getN (D := D) (ci := 1) (v := .int (nI o)) (C := RX1) (T := TX1) (N := 10) hx hb hts hi1 hown hK hP 1 rfl rfl 6 (by decide) (nf_X5_109 hE.2.1) (fun _ h9 => h9) rfl dX5_outputNode_9 ?_
    refine lv_icmp_lt (tgt := 18) hx hb dX5_outputNode_12 (by decide) (fun c_2 => ?_) (fun c_2 => ?_)
    · have c_2h : v < nI o := c_2
      exact absurd (hn_lt hv c_1) (Int32.not_le.mpr c_2)
    · have c_2h : ¬ v < nI o := c_2
      refine lv_bipush (v := (-101)) hx hb dX5_outputNode_15 (by decide) ?_
      exact W.iret (v := (-101)) hx hb hr (fun tt ht hW => ⟨_, rfl, rfl, ht⟩) (fun _ h => by cases h) dX5_outputNode_17
set_option maxHeartbeats 4000000 in
set_option maxRecDepth 100000 in
theorem c5_isNormal (l : Launch) (D : va_G) (g : hk_G) (ti : Nat) (x : Nat) (y0 : Value) (y1 : Value) (y3 : Value) (y4 : Value) (a : Nat) (f0 : Value) (f1 : Value) (f2 : Value) (f3 : Value) (n : Nat) (N : Nat) (o : Nat) (nm : Int64) (cd : Nat) (wt : Nat) (w : Nat) (hC : Cok n N o cd wt) (hw : w < 2 ^ n) (hw6 : w < 64) : Met l yX5_isNormal wsX5_isNormal ({ frames := 1, cells := 0, slots := 0, locals := 22 }) (va_Pc [.ref x, .int (nI w)] (hk_Ro D g ti [(x, .inr (5, [y0, y1, .ref a, y3, y4])), (a, .inr (1, [f0, f1, f2, f3, .int (nI n), .int (nI N), .int (nI o), .long nm, .int (nI cd), .int (nI wt)]))])) (vp_Si (fun r => r = bI (lb nm w))) 0 0 (fun _ => False) := by
  refine Met.ofW (cc := cX5_isNormal) (maxL := 2) (ret := (some .int)) (by decide) rfl ?_
  intro p e s m args below meth c s₁ Bd hml hv
  obtain ⟨rfl, hP, hE⟩ := hv
  have hx := Bd.exec
  have hb := Bd.bytes
  have hr := Bd.returns
  have hts := atoms_spec (ws := wsX5_isNormal) Bd.pre
  have hown : s.vm.findClass RX5 = some m.cls := findClass_of_methodNamed Bd.named
  have hlocks := Bd.notSynchronized
  have hK := hE.1
  have hi1 : ∀ w ∈ wsX10, w ∈ wsX5_isNormal := fun w h => List.mem_cons_of_mem _ (List.mem_append_right _ h)
  have hi5 : ∀ w ∈ wsX50, w ∈ wsX5_isNormal := fun w h => List.mem_cons_of_mem _ (List.mem_append_left _ (List.mem_append_right _ h))
  have hS : va_S (fun _ => False) s.heap s.heap [] := va_S.rf
  have hl := lv_entry ([.ref x, .int (nI w)]) (n := 2) (Nat.le_of_ble_eq_true rfl)
  rw [lg_entry_eq]
  generalize (lg_sl ([.ref x, .int (nI w)]) ++ List.replicate (2 - (lg_sl ([.ref x, .int (nI w)])).length) Slot.unset).toArray = ls at hl ⊢
  have hl : lv_has ls 2 [(0, .ref x), (1, .int (nI w))] := hl
  refine lv_aload_n hx hb dX5_isNormal_0 rfl (lv_at hl 0 rfl) ?_
  refine va_get (D := D) (ci := 5) (v := .ref a) (C := RX5) (T := TX5) (N := 5) hx hb hts hi5 hown hK hP 0 rfl rfl 2 (by decide) (hts (.fieldLink RX5 28 "SelfCheckingCircuit" "circuit" "LSelfCheckingCircuit$Circuit;") (by decide +kernel)) (fun _ h9 => h9) rfl dX5_isNormal_1 ?_
  refine lv_iload_n hx hb dX5_isNormal_4 rfl (lv_at hl 1 rfl) ?_
  refine hk_csi (va_runVN (As := [.int (nI w)]) (rest := []) ⟨hx, hb, hml, hown, hts⟩ (c1_hasWord l D g ti a f0 f1 f2 f3 (nI n) (nI N) (nI o) nm (nI cd) (nI wt) (nI w) ) ⟨va_cnB 1 hts gX5_isNormal_X1_hasWord_n116 rfl rfl rfl (nm_X5_116 hE.2.1) (hts (.initialized RX1) (by decide +kernel)) (by decide +kernel) ⟨Nat.le_of_ble_eq_true rfl, Nat.le_of_ble_eq_true rfl⟩, hts (.instanceMethod yX1_hasWord) (by decide +kernel), hts (.selects RX1 yX1_hasWord yX1_hasWord) (by decide +kernel)⟩ (hk_roV hE hP hS 1 rfl rfl [1] rfl rfl) rfl rfl hl.1 rfl (lv_room (Nat.le_of_ble_eq_true rfl)) dX5_isNormal_5 ⟨Nat.zero_le _, Nat.zero_le _⟩) (fun r_1 hr_2 => ?_)
  subst hr_2
  refine hk_ti (bI (hn (2 ^ n) (nI w))) (by rw [hn_pw n (by have := hC.2.1; omega)]; exact hn_eq (2 ^ n) (nI w)) ?_
  refine lv_if_ne (tgt := 14) hx hb dX5_isNormal_8 (by decide) (fun c_3 => ?_) (fun c_3 => ?_)
  · have c_3h : ¬ bI (hn (2 ^ n) (nI w)) = (0 : Int32) := c_3
    refine lv_aload_n hx hb dX5_isNormal_14 rfl (lv_at hl 0 rfl) ?_
    refine va_get (D := D) (ci := 5) (v := .ref a) (C := RX5) (T := TX5) (N := 5) hx hb hts hi5 hown hK hP 0 rfl rfl 2 (by decide) (hts (.fieldLink RX5 28 "SelfCheckingCircuit" "circuit" "LSelfCheckingCircuit$Circuit;") (by decide +kernel)) (fun _ h9 => h9) rfl dX5_isNormal_15 ?_
    refine va_getN (D := D) (ci := 1) (v := .long nm) (C := RX1) (T := TX1) (N := 10) hx hb hts hi1 hown hK hP 1 rfl rfl 7 (by decide) (nf_X5_119 hE.2.1) (fun _ h9 => h9) rfl dX5_isNormal_18 ?_
    refine lv_iload_n hx hb dX5_isNormal_21 rfl (lv_at hl 1 rfl) ?_
    refine hk_csi (va_runS (As := [.long nm, .int (nI w)]) (rest := []) ⟨hx, hb, hml, hown, hts⟩ (c5_bit l D g ti nm w hw6) (va_cwS 2 hts gX5_isNormal_X5_bit rfl rfl rfl (by decide +kernel) ⟨Nat.le_of_ble_eq_true rfl, Nat.le_of_ble_eq_true rfl⟩) (hk_roS hE hP hS [] rfl) rfl rfl hl.1 rfl (lv_room (Nat.le_of_ble_eq_true rfl)) dX5_isNormal_22 ⟨Nat.zero_le _, Nat.zero_le _⟩) (fun r_4 hr_5 => ?_)
    subst hr_5
    exact W.iret (v := (bI (lb nm w))) hx hb hr (fun tt ht hW => ⟨_, rfl, rfl, ht⟩) (fun _ h => by cases h) dX5_isNormal_25
  · have c_3h : bI (hn (2 ^ n) (nI w)) = (0 : Int32) := c_3
    exact absurd (bI_n0 (b := hn (2 ^ n) (nI w)) (by rw [hn_t hw (by have := hC.2.1; exact Nat.lt_of_le_of_lt (Nat.pow_le_pow_right (by decide) this) (by decide : 2 ^ 6 < 2 ^ 31))]; decide)) (by rw [bI_0.mp c_3]; decide)
set_option maxHeartbeats 4000000 in
set_option maxRecDepth 100000 in
theorem c5_isNormal_no (l : Launch) (D : va_G) (g : hk_G) (ti : Nat) (x : Nat) (y0 : Value) (y1 : Value) (y3 : Value) (y4 : Value) (a : Nat) (f0 : Value) (f1 : Value) (f2 : Value) (f3 : Value) (n : Nat) (N : Nat) (o : Nat) (nm : Int64) (cd : Nat) (wt : Nat) (v : Int32) (hC : Cok n N o cd wt) (hv : hn (2 ^ n) v = false) : Met l yX5_isNormal wsX5_isNormal ({ frames := 1, cells := 0, slots := 0, locals := 21 }) (va_Pc [.ref x, .int v] (hk_Ro D g ti [(x, .inr (5, [y0, y1, .ref a, y3, y4])), (a, .inr (1, [f0, f1, f2, f3, .int (nI n), .int (nI N), .int (nI o), .long nm, .int (nI cd), .int (nI wt)]))])) (vp_Si (fun r => r = -101)) 0 0 (fun _ => False) := by
  refine Met.ofW (cc := cX5_isNormal) (maxL := 2) (ret := (some .int)) (by decide) rfl ?_
  intro p e s m args below meth c s₁ Bd hml hv
  obtain ⟨rfl, hP, hE⟩ := hv
  have hx := Bd.exec
  have hb := Bd.bytes
  have hr := Bd.returns
  have hts := atoms_spec (ws := wsX5_isNormal) Bd.pre
  have hown : s.vm.findClass RX5 = some m.cls := findClass_of_methodNamed Bd.named
  have hlocks := Bd.notSynchronized
  have hK := hE.1
  have hi5 : ∀ w ∈ wsX50, w ∈ wsX5_isNormal := fun w h => List.mem_cons_of_mem _ (List.mem_append_left _ (List.mem_append_right _ h))
  have hS : va_S (fun _ => False) s.heap s.heap [] := va_S.rf
  have hl := lv_entry ([.ref x, .int v]) (n := 2) (Nat.le_of_ble_eq_true rfl)
  rw [lg_entry_eq]
  generalize (lg_sl ([.ref x, .int v]) ++ List.replicate (2 - (lg_sl ([.ref x, .int v])).length) Slot.unset).toArray = ls at hl ⊢
  have hl : lv_has ls 2 [(0, .ref x), (1, .int v)] := hl
  refine lv_aload_n hx hb dX5_isNormal_0 rfl (lv_at hl 0 rfl) ?_
  refine va_get (D := D) (ci := 5) (v := .ref a) (C := RX5) (T := TX5) (N := 5) hx hb hts hi5 hown hK hP 0 rfl rfl 2 (by decide) (hts (.fieldLink RX5 28 "SelfCheckingCircuit" "circuit" "LSelfCheckingCircuit$Circuit;") (by decide +kernel)) (fun _ h9 => h9) rfl dX5_isNormal_1 ?_
  refine lv_iload_n hx hb dX5_isNormal_4 rfl (lv_at hl 1 rfl) ?_
  refine hk_csi (va_runVN (As := [.int v]) (rest := []) ⟨hx, hb, hml, hown, hts⟩ (c1_hasWord l D g ti a f0 f1 f2 f3 (nI n) (nI N) (nI o) nm (nI cd) (nI wt) v ) ⟨va_cnB 1 hts gX5_isNormal_X1_hasWord_n116 rfl rfl rfl (nm_X5_116 hE.2.1) (hts (.initialized RX1) (by decide +kernel)) (by decide +kernel) ⟨Nat.le_of_ble_eq_true rfl, Nat.le_of_ble_eq_true rfl⟩, hts (.instanceMethod yX1_hasWord) (by decide +kernel), hts (.selects RX1 yX1_hasWord yX1_hasWord) (by decide +kernel)⟩ (hk_roV hE hP hS 1 rfl rfl [1] rfl rfl) rfl rfl hl.1 rfl (lv_room (Nat.le_of_ble_eq_true rfl)) dX5_isNormal_5 ⟨Nat.zero_le _, Nat.zero_le _⟩) (fun r_1 hr_2 => ?_)
  subst hr_2
  refine hk_ti (bI (hn (2 ^ n) v)) (by rw [hn_pw n (by have := hC.2.1; omega)]; exact hn_eq (2 ^ n) v) ?_
  refine lv_if_ne (tgt := 14) hx hb dX5_isNormal_8 (by decide) (fun c_3 => ?_) (fun c_3 => ?_)
  · have c_3h : ¬ bI (hn (2 ^ n) v) = (0 : Int32) := c_3
    exact absurd (bI_0.mpr hv) c_3
  · have c_3h : bI (hn (2 ^ n) v) = (0 : Int32) := c_3
    refine lv_bipush (v := (-101)) hx hb dX5_isNormal_11 (by decide) ?_
    exact W.iret (v := (-101)) hx hb hr (fun tt ht hW => ⟨_, rfl, rfl, ht⟩) (fun _ h => by cases h) dX5_isNormal_13
