set_option maxHeartbeats 4000000 in
set_option maxRecDepth 100000 in
theorem c4_readNumber (l : Launch) (D : va_G) (g : hk_G) (ti : Nat) (sz : Nat) (rd : Nat) (tb : Nat) (tc : Nat) (fc : Nat → Int32) (tx : Nat → Nat) (L : Nat) (pz : Nat) (yd : Value) (yn : Value) (kc : Int32) (es : Int32) (rs : Int32) (hX : TX tx L fc) (hcn : ∀ j, narrow .char (.int (fc j)) = .int (fc j)) (hp : pz < 900) : Met l yX4_readNumber wsX4_readNumber ({ frames := 1, cells := 0, slots := 0, locals := 21 }) (va_Pc [.ref rd] (hk_In D g ti [(rd, .inr (4, [.ref tb, yd, yn, .int kc, .int (nI pz), .int es, .int rs])), (tb, .inr (2, [.ref tc, .int (nI L)])), (tc, .inl (g.1, 200, .inl fc))] sz)) (va_Qi (S := Nat) (fun r q => cNum tx L pz r q) (fun u => hk_Out D (va_A [(rd, .inr (4, [.ref tb, yd, yn, .int kc, .int (nI pz), .int es, .int rs])), (tb, .inr (2, [.ref tc, .int (nI L)])), (tc, .inl (g.1, 200, .inl fc))] sz) (match u with | q => [(rd, .inr (4, [.ref tb, yd, yn, .int kc, .int (nI q), .int es, .int rs])), (tb, .inr (2, [.ref tc, .int (nI L)])), (tc, .inl (g.1, 200, .inl fc))])) (va_A [(rd, .inr (4, [.ref tb, yd, yn, .int kc, .int (nI pz), .int es, .int rs])), (tb, .inr (2, [.ref tc, .int (nI L)])), (tc, .inl (g.1, 200, .inl fc))] sz)) 0 0 (va_A [(rd, .inr (4, [.ref tb, yd, yn, .int kc, .int (nI pz), .int es, .int rs])), (tb, .inr (2, [.ref tc, .int (nI L)])), (tc, .inl (g.1, 200, .inl fc))] sz) := by
  refine Met.ofW (cc := cX4_readNumber) (maxL := 2) (ret := (some .int)) (by decide) rfl ?_
  intro p e s m args below meth c s₁ Bd hml hv
  obtain ⟨rfl, hsz, hP, hD0, hE⟩ := hv
  have hx := Bd.exec
  have hb := Bd.bytes
  have hr := Bd.returns
  have hts := atoms_spec (ws := wsX4_readNumber) Bd.pre
  have hown : s.vm.findClass RX4 = some m.cls := findClass_of_methodNamed Bd.named
  have hlocks := Bd.notSynchronized
  have hK := hE.1
  have hi4 : ∀ w ∈ wsX40, w ∈ wsX4_readNumber := fun w h => List.mem_cons_of_mem _ (List.mem_append_left _ (List.mem_append_right _ h))
  subst hsz
  have hD := hD0.self (sz := s.heap.size)
  generalize hAe : va_A [(rd, .inr (4, [.ref tb, yd, yn, .int kc, .int (nI pz), .int es, .int rs])), (tb, .inr (2, [.ref tc, .int (nI L)])), (tc, .inl (g.1, 200, .inl fc))] s.heap.size = A at hD hE ⊢
  have hA : ∀ q : Nat, s.heap.size ≤ q → A q := fun q h => by rw [← hAe]; exact Or.inr h
  have hS : va_S A s.heap s.heap [] := va_S.rf
  have hl := lv_entry ([.ref rd]) (n := 2) (Nat.le_of_ble_eq_true rfl)
  rw [lg_entry_eq]
  generalize (lg_sl ([.ref rd]) ++ List.replicate (2 - (lg_sl ([.ref rd])).length) Slot.unset).toArray = ls at hl ⊢
  have hl : lv_has ls 2 [(0, .ref rd)] := hl
  refine lv_aload_n hx hb dX4_readNumber_0 rfl (lv_at hl 0 rfl) ?_
  refine va_get (D := D) (ci := 4) (v := .ref tb) (C := RX4) (T := TX4) (N := 7) hx hb hts hi4 hown hK hP 0 rfl rfl 0 (by decide) (hts (.fieldLink RX4 22 "SelfCheckingCircuit$TextReader" "text" "LSelfCheckingCircuit$CircuitText;") (by decide +kernel)) (fun _ h9 => h9) rfl dX4_readNumber_1 ?_
  refine lv_aload_n hx hb dX4_readNumber_4 rfl (lv_at hl 0 rfl) ?_
  refine va_get (D := D) (ci := 4) (v := .int (nI pz)) (C := RX4) (T := TX4) (N := 7) hx hb hts hi4 hown hK hP 0 rfl rfl 4 (by decide) (hts (.fieldLink RX4 33 "SelfCheckingCircuit$TextReader" "position" "I") (by decide +kernel)) (fun _ h9 => h9) rfl dX4_readNumber_5 ?_
  refine hk_csi (va_runVN (As := [.int (nI pz)]) (rest := []) ⟨hx, hb, hml, hown, hts⟩ (c2_at l D g ti tb tc fc (nI L) (nI pz) hcn) ⟨va_cnB 1 hts gX4_readNumber_X2_at_n53 rfl rfl rfl (nm_X4_53 hE.2.1) (hts (.initialized RX2) (by decide +kernel)) (by decide +kernel) ⟨Nat.le_of_ble_eq_true rfl, Nat.le_of_ble_eq_true rfl⟩, hts (.instanceMethod yX2_at) (by decide +kernel), hts (.selects RX2 yX2_at yX2_at) (by decide +kernel)⟩ (hk_roV hE hP hS 2 rfl rfl [1, 2] rfl rfl) rfl rfl hl.1 rfl (lv_room (Nat.le_of_ble_eq_true rfl)) dX4_readNumber_8 ⟨Nat.zero_le _, Nat.zero_le _⟩) (fun r_1 hr_2 => ?_)
  subst hr_2
  refine hk_ti (nI (ca tx L pz)) (at_n hX (by omega)) ?_
  refine hk_csi (va_runS (As := [.int (nI (ca tx L pz))]) (rest := []) ⟨hx, hb, hml, hown, hts⟩ (c4_isDigit l D g ti (nI (ca tx L pz)) ) (va_cwS 1 hts gX4_readNumber_X4_isDigit rfl rfl rfl (by decide +kernel) ⟨Nat.le_of_ble_eq_true rfl, Nat.le_of_ble_eq_true rfl⟩) (hk_roS hE hP hS [] rfl) rfl rfl hl.1 rfl (lv_room (Nat.le_of_ble_eq_true rfl)) dX4_readNumber_11 ⟨Nat.zero_le _, Nat.zero_le _⟩) (fun r_3 hr_4 => ?_)
  subst hr_4
  refine hk_ti (bI (dg (ca tx L pz))) (dg_n (ca_lt hX _)) ?_
  refine lv_if_ne (tgt := 19) hx hb dX4_readNumber_14 (by decide) (fun c_5 => ?_) (fun c_5 => ?_)
  · have c_5h : ¬ bI (dg (ca tx L pz)) = (0 : Int32) := c_5
    refine lv_aload_n hx hb dX4_readNumber_19 rfl (lv_at hl 0 rfl) ?_
    refine va_get (D := D) (ci := 4) (v := .ref tb) (C := RX4) (T := TX4) (N := 7) hx hb hts hi4 hown hK hP 0 rfl rfl 0 (by decide) (hts (.fieldLink RX4 22 "SelfCheckingCircuit$TextReader" "text" "LSelfCheckingCircuit$CircuitText;") (by decide +kernel)) (fun _ h9 => h9) rfl dX4_readNumber_20 ?_
    refine lv_aload_n hx hb dX4_readNumber_23 rfl (lv_at hl 0 rfl) ?_
    refine va_get (D := D) (ci := 4) (v := .int (nI pz)) (C := RX4) (T := TX4) (N := 7) hx hb hts hi4 hown hK hP 0 rfl rfl 4 (by decide) (hts (.fieldLink RX4 33 "SelfCheckingCircuit$TextReader" "position" "I") (by decide +kernel)) (fun _ h9 => h9) rfl dX4_readNumber_24 ?_
    refine hk_csi (va_runVN (As := [.int (nI pz)]) (rest := []) ⟨hx, hb, hml, hown, hts⟩ (c2_at l D g ti tb tc fc (nI L) (nI pz) hcn) ⟨va_cnB 1 hts gX4_readNumber_X2_at_n53 rfl rfl rfl (nm_X4_53 hE.2.1) (hts (.initialized RX2) (by decide +kernel)) (by decide +kernel) ⟨Nat.le_of_ble_eq_true rfl, Nat.le_of_ble_eq_true rfl⟩, hts (.instanceMethod yX2_at) (by decide +kernel), hts (.selects RX2 yX2_at yX2_at) (by decide +kernel)⟩ (hk_roV hE hP hS 2 rfl rfl [1, 2] rfl rfl) rfl rfl hl.1 rfl (lv_room (Nat.le_of_ble_eq_true rfl)) dX4_readNumber_27 ⟨Nat.zero_le _, Nat.zero_le _⟩) (fun r_6 hr_7 => ?_)
    subst hr_7
    refine hk_ti (nI (ca tx L pz)) (at_n hX (by omega)) ?_
    refine lv_bipush (v := 48) hx hb dX4_readNumber_30 (by decide) ?_
    refine lv_isub hx hb dX4_readNumber_32 ?_
    refine lv_istore_n (lv' := [(1, .int (nI (ca tx L pz) - (48 : Int32))), (0, .ref rd)]) hx hb dX4_readNumber_33 rfl hl (by decide) rfl (fun ls hl => ?_)
    refine lv_aload_n hx hb dX4_readNumber_34 rfl (lv_at hl 1 rfl) ?_
    refine lv_dup hx hb dX4_readNumber_35 rfl ?_
    refine va_get (D := D) (ci := 4) (v := .int (nI pz)) (C := RX4) (T := TX4) (N := 7) hx hb hts hi4 hown hK hP 0 rfl rfl 4 (by decide) (hts (.fieldLink RX4 33 "SelfCheckingCircuit$TextReader" "position" "I") (by decide +kernel)) (fun _ h9 => h9) rfl dX4_readNumber_36 ?_
    refine lv_iconst (v := 1) hx hb dX4_readNumber_39 (by decide) ?_
    refine lv_iadd hx hb dX4_readNumber_40 ?_
    refine hk_ti (nI (pz + 1)) (nI_1 pz) ?_
    refine va_put (D := D) (ci := 4) (v := .int (nI (pz + 1))) (ty := .int) (C := RX4) (T := TX4) (N := 7) hx hb hts hi4 tyX4 tyX4_ok nmX4 hown hK hP hD hS 0 rfl rfl 4 (by decide) (hts (.fieldLink RX4 33 "SelfCheckingCircuit$TextReader" "position" "I") (by decide +kernel)) (fun _ h9 => h9) rfl (by decide +kernel) rfl rfl (Nat.le_of_ble_eq_true rfl) dX4_readNumber_41 (fun H locs hP hD hS => ?_)
    have hP : va_P D vwCl [(rd, .inr (4, [.ref tb, yd, yn, .int kc, .int (nI (pz + 1)), .int es, .int rs])), (tb, .inr (2, [.ref tc, .int (nI L)])), (tc, .inl (g.1, 200, .inl fc))] H := hP
    have hD : va_D A [(rd, .inr (4, [.ref tb, yd, yn, .int kc, .int (nI (pz + 1)), .int es, .int rs])), (tb, .inr (2, [.ref tc, .int (nI L)])), (tc, .inl (g.1, 200, .inl fc))] := hD
    refine lv_aload_n hx hb dX4_readNumber_44 rfl (lv_at hl 1 rfl) ?_
    refine va_get (D := D) (ci := 4) (v := .ref tb) (C := RX4) (T := TX4) (N := 7) hx hb hts hi4 hown hK hP 0 rfl rfl 0 (by decide) (hts (.fieldLink RX4 22 "SelfCheckingCircuit$TextReader" "text" "LSelfCheckingCircuit$CircuitText;") (by decide +kernel)) (fun _ h9 => h9) rfl dX4_readNumber_45 ?_
    refine lv_aload_n hx hb dX4_readNumber_48 rfl (lv_at hl 1 rfl) ?_
    refine va_get (D := D) (ci := 4) (v := .int (nI (pz + 1))) (C := RX4) (T := TX4) (N := 7) hx hb hts hi4 hown hK hP 0 rfl rfl 4 (by decide) (hts (.fieldLink RX4 33 "SelfCheckingCircuit$TextReader" "position" "I") (by decide +kernel)) (fun _ h9 => h9) rfl dX4_readNumber_49 ?_
    refine hk_csi (va_runVN (As := [.int (nI (pz + 1))]) (rest := []) ⟨hx, hb, hml, hown, hts⟩ (c2_at l D g ti tb tc fc (nI L) (nI (pz + 1)) hcn) ⟨va_cnB 1 hts gX4_readNumber_X2_at_n53 rfl rfl rfl (nm_X4_53 hE.2.1) (hts (.initialized RX2) (by decide +kernel)) (by decide +kernel) ⟨Nat.le_of_ble_eq_true rfl, Nat.le_of_ble_eq_true rfl⟩, hts (.instanceMethod yX2_at) (by decide +kernel), hts (.selects RX2 yX2_at yX2_at) (by decide +kernel)⟩ (hk_roV hE hP hS 2 rfl rfl [1, 2] rfl rfl) rfl rfl hl.1 rfl (lv_room (Nat.le_of_ble_eq_true rfl)) dX4_readNumber_52 ⟨Nat.zero_le _, Nat.zero_le _⟩) (fun r_8 hr_9 => ?_)
    subst hr_9
    refine hk_ti (nI (ca tx L (pz + 1))) (at_n hX (by omega)) ?_
    refine hk_csi (va_runS (As := [.int (nI (ca tx L (pz + 1)))]) (rest := []) ⟨hx, hb, hml, hown, hts⟩ (c4_isDigit l D g ti (nI (ca tx L (pz + 1))) ) (va_cwS 1 hts gX4_readNumber_X4_isDigit rfl rfl rfl (by decide +kernel) ⟨Nat.le_of_ble_eq_true rfl, Nat.le_of_ble_eq_true rfl⟩) (hk_roS hE hP hS [] rfl) rfl rfl hl.1 rfl (lv_room (Nat.le_of_ble_eq_true rfl)) dX4_readNumber_55 ⟨Nat.zero_le _, Nat.zero_le _⟩) (fun r_10 hr_11 => ?_)
    subst hr_11
    refine hk_ti (bI (dg (ca tx L (pz + 1)))) (dg_n (ca_lt hX _)) ?_
    refine lv_if_eq (tgt := 91) hx hb dX4_readNumber_58 (by decide) (fun c_12 => ?_) (fun c_12 => ?_)
    · have c_12h : bI (dg (ca tx L (pz + 1))) = (0 : Int32) := c_12
      refine lv_iload_n hx hb dX4_readNumber_91 rfl (lv_at hl 0 rfl) ?_
      have hP9 := hP.sub (ws' := [(rd, .inr (4, [.ref tb, yd, yn, .int kc, .int (nI (pz + 1)), .int es, .int rs])), (tb, .inr (2, [.ref tc, .int (nI L)])), (tc, .inl (g.1, 200, .inl fc))]) [0, 1, 2] rfl
      have hD9 := hD.sub (ws' := [(rd, .inr (4, [.ref tb, yd, yn, .int kc, .int (nI (pz + 1)), .int es, .int rs])), (tb, .inr (2, [.ref tc, .int (nI L)])), (tc, .inl (g.1, 200, .inl fc))]) [0, 1, 2] (by decide) rfl
      exact W.iret (v := (nI (ca tx L pz) - (48 : Int32))) hx hb hr (fun tt ht hW => ⟨⟨_, (pz + 1), rfl, cN_1 (bI_n0 c_5) (bI_0.mp c_12), by rw [ht]; exact hP9, hD9⟩, hS.F ht⟩) hS.2.2 dX4_readNumber_92
    · have c_12h : ¬ bI (dg (ca tx L (pz + 1))) = (0 : Int32) := c_12
      refine lv_bipush (v := 10) hx hb dX4_readNumber_61 (by decide) ?_
      refine lv_iload_n hx hb dX4_readNumber_63 rfl (lv_at hl 0 rfl) ?_
      refine lv_imul hx hb dX4_readNumber_64 ?_
      refine lv_aload_n hx hb dX4_readNumber_65 rfl (lv_at hl 1 rfl) ?_
      refine va_get (D := D) (ci := 4) (v := .ref tb) (C := RX4) (T := TX4) (N := 7) hx hb hts hi4 hown hK hP 0 rfl rfl 0 (by decide) (hts (.fieldLink RX4 22 "SelfCheckingCircuit$TextReader" "text" "LSelfCheckingCircuit$CircuitText;") (by decide +kernel)) (fun _ h9 => h9) rfl dX4_readNumber_66 ?_
      refine lv_aload_n hx hb dX4_readNumber_69 rfl (lv_at hl 1 rfl) ?_
      refine va_get (D := D) (ci := 4) (v := .int (nI (pz + 1))) (C := RX4) (T := TX4) (N := 7) hx hb hts hi4 hown hK hP 0 rfl rfl 4 (by decide) (hts (.fieldLink RX4 33 "SelfCheckingCircuit$TextReader" "position" "I") (by decide +kernel)) (fun _ h9 => h9) rfl dX4_readNumber_70 ?_
      refine hk_csi (va_runVN (As := [.int (nI (pz + 1))]) (rest := [.int ((10 : Int32) * (nI (ca tx L pz) - (48 : Int32)))]) ⟨hx, hb, hml, hown, hts⟩ (c2_at l D g ti tb tc fc (nI L) (nI (pz + 1)) hcn) ⟨va_cnB 1 hts gX4_readNumber_X2_at_n53 rfl rfl rfl (nm_X4_53 hE.2.1) (hts (.initialized RX2) (by decide +kernel)) (by decide +kernel) ⟨Nat.le_of_ble_eq_true rfl, Nat.le_of_ble_eq_true rfl⟩, hts (.instanceMethod yX2_at) (by decide +kernel), hts (.selects RX2 yX2_at yX2_at) (by decide +kernel)⟩ (hk_roV hE hP hS 2 rfl rfl [1, 2] rfl rfl) rfl rfl hl.1 rfl (lv_room (Nat.le_of_ble_eq_true rfl)) dX4_readNumber_73 ⟨Nat.zero_le _, Nat.zero_le _⟩) (fun r_13 hr_14 => ?_)
      subst hr_14
      refine hk_ti (nI (ca tx L (pz + 1))) (at_n hX (by omega)) ?_
      refine lv_iadd hx hb dX4_readNumber_76 ?_
      refine lv_bipush (v := 48) hx hb dX4_readNumber_77 (by decide) ?_
      refine lv_isub hx hb dX4_readNumber_79 ?_
      refine lv_istore_n (lv' := [(1, .int ((((10 : Int32) * (nI (ca tx L pz) - (48 : Int32))) + nI (ca tx L (pz + 1))) - (48 : Int32))), (0, .ref rd)]) hx hb dX4_readNumber_80 rfl hl (by decide) rfl (fun ls hl => ?_)
      refine lv_aload_n hx hb dX4_readNumber_81 rfl (lv_at hl 1 rfl) ?_
      refine lv_dup hx hb dX4_readNumber_82 rfl ?_
      refine va_get (D := D) (ci := 4) (v := .int (nI (pz + 1))) (C := RX4) (T := TX4) (N := 7) hx hb hts hi4 hown hK hP 0 rfl rfl 4 (by decide) (hts (.fieldLink RX4 33 "SelfCheckingCircuit$TextReader" "position" "I") (by decide +kernel)) (fun _ h9 => h9) rfl dX4_readNumber_83 ?_
      refine lv_iconst (v := 1) hx hb dX4_readNumber_86 (by decide) ?_
      refine lv_iadd hx hb dX4_readNumber_87 ?_
      refine hk_ti (nI (pz + 2)) (nI_1 (pz + 1)) ?_
      refine va_put (D := D) (ci := 4) (v := .int (nI (pz + 2))) (ty := .int) (C := RX4) (T := TX4) (N := 7) hx hb hts hi4 tyX4 tyX4_ok nmX4 hown hK hP hD hS 0 rfl rfl 4 (by decide) (hts (.fieldLink RX4 33 "SelfCheckingCircuit$TextReader" "position" "I") (by decide +kernel)) (fun _ h9 => h9) rfl (by decide +kernel) rfl rfl (Nat.le_of_ble_eq_true rfl) dX4_readNumber_88 (fun H locs hP hD hS => ?_)
      have hP : va_P D vwCl [(rd, .inr (4, [.ref tb, yd, yn, .int kc, .int (nI (pz + 2)), .int es, .int rs])), (tb, .inr (2, [.ref tc, .int (nI L)])), (tc, .inl (g.1, 200, .inl fc))] H := hP
      have hD : va_D A [(rd, .inr (4, [.ref tb, yd, yn, .int kc, .int (nI (pz + 2)), .int es, .int rs])), (tb, .inr (2, [.ref tc, .int (nI L)])), (tc, .inl (g.1, 200, .inl fc))] := hD
      refine lv_iload_n hx hb dX4_readNumber_91 rfl (lv_at hl 0 rfl) ?_
      have hP9 := hP.sub (ws' := [(rd, .inr (4, [.ref tb, yd, yn, .int kc, .int (nI (pz + 2)), .int es, .int rs])), (tb, .inr (2, [.ref tc, .int (nI L)])), (tc, .inl (g.1, 200, .inl fc))]) [0, 1, 2] rfl
      have hD9 := hD.sub (ws' := [(rd, .inr (4, [.ref tb, yd, yn, .int kc, .int (nI (pz + 2)), .int es, .int rs])), (tb, .inr (2, [.ref tc, .int (nI L)])), (tc, .inl (g.1, 200, .inl fc))]) [0, 1, 2] (by decide) rfl
      exact W.iret (v := ((((10 : Int32) * (nI (ca tx L pz) - (48 : Int32))) + nI (ca tx L (pz + 1))) - (48 : Int32))) hx hb hr (fun tt ht hW => ⟨⟨_, (pz + 2), rfl, cN_2 (bI_n0 c_5) (bI_n0 c_12), by rw [ht]; exact hP9, hD9⟩, hS.F ht⟩) hS.2.2 dX4_readNumber_92
  · have c_5h : bI (dg (ca tx L pz)) = (0 : Int32) := c_5
    refine lv_iconst (v := (-1)) hx hb dX4_readNumber_17 (by decide) ?_
    have hP9 := hP.sub (ws' := [(rd, .inr (4, [.ref tb, yd, yn, .int kc, .int (nI pz), .int es, .int rs])), (tb, .inr (2, [.ref tc, .int (nI L)])), (tc, .inl (g.1, 200, .inl fc))]) [0, 1, 2] rfl
    have hD9 := hD.sub (ws' := [(rd, .inr (4, [.ref tb, yd, yn, .int kc, .int (nI pz), .int es, .int rs])), (tb, .inr (2, [.ref tc, .int (nI L)])), (tc, .inl (g.1, 200, .inl fc))]) [0, 1, 2] (by decide) rfl
    exact W.iret (v := (-1)) hx hb hr (fun tt ht hW => ⟨⟨_, pz, rfl, cN_0 (bI_0.mp c_5), by rw [ht]; exact hP9, hD9⟩, hS.F ht⟩) hS.2.2 dX4_readNumber_18
set_option maxHeartbeats 4000000 in
set_option maxRecDepth 100000 in
theorem c4_readNumbers_1 (l : Launch) (D : va_G) (g : hk_G) (ti : Nat) (sz : Nat) (rd : Nat) (tb : Nat) (tc : Nat) (fc : Nat → Int32) (tx : Nat → Nat) (L : Nat) (pz : Nat) (yd : Value) (nb : Nat) (fn : Nat → Int32) (kc : Int32) (es : Int32) (rs : Int32) (hX : TX tx L fc) (hcn : ∀ j, narrow .char (.int (fc j)) = .int (fc j)) (hp : pz < 800) : Met l yX4_readNumbers wsX4_readNumbers ({ frames := 2, cells := 0, slots := 0, locals := 42 }) (va_Pc [.ref rd, .int 1] (hk_In D g ti [(rd, .inr (4, [.ref tb, yd, .ref nb, .int kc, .int (nI pz), .int es, .int rs])), (tb, .inr (2, [.ref tc, .int (nI L)])), (tc, .inl (g.1, 200, .inl fc)), (nb, .inl (g.2.1, 3, .inl fn))] sz)) (va_Qi (S := Int32 × Nat × (Nat → Int32)) (fun r u => N1 tx L pz r u.1 u.2.1 u.2.2) (fun u => hk_Out D (va_A [(rd, .inr (4, [.ref tb, yd, .ref nb, .int kc, .int (nI pz), .int es, .int rs])), (tb, .inr (2, [.ref tc, .int (nI L)])), (tc, .inl (g.1, 200, .inl fc)), (nb, .inl (g.2.1, 3, .inl fn))] sz) (match u with | (k', q', f') => [(rd, .inr (4, [.ref tb, yd, .ref nb, .int k', .int (nI q'), .int es, .int rs])), (tb, .inr (2, [.ref tc, .int (nI L)])), (tc, .inl (g.1, 200, .inl fc)), (nb, .inl (g.2.1, 3, .inl f'))])) (va_A [(rd, .inr (4, [.ref tb, yd, .ref nb, .int kc, .int (nI pz), .int es, .int rs])), (tb, .inr (2, [.ref tc, .int (nI L)])), (tc, .inl (g.1, 200, .inl fc)), (nb, .inl (g.2.1, 3, .inl fn))] sz)) 0 0 (va_A [(rd, .inr (4, [.ref tb, yd, .ref nb, .int kc, .int (nI pz), .int es, .int rs])), (tb, .inr (2, [.ref tc, .int (nI L)])), (tc, .inl (g.1, 200, .inl fc)), (nb, .inl (g.2.1, 3, .inl fn))] sz) := by
  refine Met.ofW (cc := cX4_readNumbers) (maxL := 5) (ret := (some .boolean)) (by decide) rfl ?_
  intro p e s m args below meth c s₁ Bd hml hv
  obtain ⟨rfl, hsz, hP, hD0, hE⟩ := hv
  have hx := Bd.exec
  have hb := Bd.bytes
  have hr := Bd.returns
  have hts := atoms_spec (ws := wsX4_readNumbers) Bd.pre
  have hown : s.vm.findClass RX4 = some m.cls := findClass_of_methodNamed Bd.named
  have hlocks := Bd.notSynchronized
  have hK := hE.1
  have hi4 : ∀ w ∈ wsX40, w ∈ wsX4_readNumbers := fun w h => List.mem_cons_of_mem _ (List.mem_append_left _ (List.mem_append_right _ h))
  subst hsz
  have hD := hD0.self (sz := s.heap.size)
  generalize hAe : va_A [(rd, .inr (4, [.ref tb, yd, .ref nb, .int kc, .int (nI pz), .int es, .int rs])), (tb, .inr (2, [.ref tc, .int (nI L)])), (tc, .inl (g.1, 200, .inl fc)), (nb, .inl (g.2.1, 3, .inl fn))] s.heap.size = A at hD hE ⊢
  have hA : ∀ q : Nat, s.heap.size ≤ q → A q := fun q h => by rw [← hAe]; exact Or.inr h
  have hS : va_S A s.heap s.heap [] := va_S.rf
  have hl := lv_entry ([.ref rd, .int 1]) (n := 5) (Nat.le_of_ble_eq_true rfl)
  rw [lg_entry_eq]
  generalize (lg_sl ([.ref rd, .int 1]) ++ List.replicate (5 - (lg_sl ([.ref rd, .int 1])).length) Slot.unset).toArray = ls at hl ⊢
  have hl : lv_has ls 5 [(0, .ref rd), (1, .int 1)] := hl
  refine lv_aload_n hx hb dX4_readNumbers_0 rfl (lv_at hl 0 rfl) ?_
  refine lv_iconst (v := 0) hx hb dX4_readNumbers_1 (by decide) ?_
  refine va_put (D := D) (ci := 4) (v := .int 0) (ty := .int) (C := RX4) (T := TX4) (N := 7) hx hb hts hi4 tyX4 tyX4_ok nmX4 hown hK hP hD hS 0 rfl rfl 3 (by decide) (hts (.fieldLink RX4 65 "SelfCheckingCircuit$TextReader" "count" "I") (by decide +kernel)) (fun _ h9 => h9) rfl (by decide +kernel) rfl rfl (Nat.le_of_ble_eq_true rfl) dX4_readNumbers_2 (fun H locs hP hD hS => ?_)
  have hP : va_P D vwCl [(rd, .inr (4, [.ref tb, yd, .ref nb, .int 0, .int (nI pz), .int es, .int rs])), (tb, .inr (2, [.ref tc, .int (nI L)])), (tc, .inl (g.1, 200, .inl fc)), (nb, .inl (g.2.1, 3, .inl fn))] H := hP
  have hD : va_D A [(rd, .inr (4, [.ref tb, yd, .ref nb, .int 0, .int (nI pz), .int es, .int rs])), (tb, .inr (2, [.ref tc, .int (nI L)])), (tc, .inl (g.1, 200, .inl fc)), (nb, .inl (g.2.1, 3, .inl fn))] := hD
  refine lv_iconst (v := 0) hx hb dX4_readNumbers_5 (by decide) ?_
  refine lv_istore_n (lv' := [(2, .int 0), (0, .ref rd), (1, .int 1)]) hx hb dX4_readNumbers_6 rfl hl (by decide) rfl (fun ls hl => ?_)
  refine lv_iload_n hx hb dX4_readNumbers_7 rfl (lv_at hl 0 rfl) ?_
  refine lv_iload_n hx hb dX4_readNumbers_8 rfl (lv_at hl 2 rfl) ?_
  refine lv_icmp_ge (tgt := 95) hx hb dX4_readNumbers_9 (by decide) (fun c_1 => ?_) (fun c_1 => ?_)
  · have c_1h : (1 : Int32) ≤ (0 : Int32) := c_1
    exact absurd c_1 (by decide)
  · have c_1h : ¬ (1 : Int32) ≤ (0 : Int32) := c_1
    refine lv_iload_n hx hb dX4_readNumbers_12 rfl (lv_at hl 0 rfl) ?_
    refine lv_iconst (v := 3) hx hb dX4_readNumbers_13 (by decide) ?_
    refine lv_icmp_ge (tgt := 95) hx hb dX4_readNumbers_14 (by decide) (fun c_2 => ?_) (fun c_2 => ?_)
    · have c_2h : (3 : Int32) ≤ (0 : Int32) := c_2
      exact absurd c_2 (by decide)
    · have c_2h : ¬ (3 : Int32) ≤ (0 : Int32) := c_2
      refine lv_aload_n hx hb dX4_readNumbers_17 rfl (lv_at hl 1 rfl) ?_
      refine hk_cmi (wr := [(nb, .inl (g.2.1, 3, .inl fn))]) (va_runV (As := []) (rest := []) ⟨hx, hb, hml, hown, hts⟩ (c4_readNumber l D g ti _ rd tb tc fc tx L pz yd (.ref nb) 0 es rs hX hcn (by omega)) (cwV 0 hts gX4_readNumbers_X4_readNumber rfl rfl rfl (by decide +kernel) ⟨Nat.le_of_ble_eq_true rfl, Nat.le_of_ble_eq_true rfl⟩) (hk_inV hE hP hD hS hA 4 rfl rfl [0, 1, 2] (by decide) rfl rfl) rfl rfl hl.1 rfl (lv_room (Nat.le_of_ble_eq_true rfl)) dX4_readNumbers_18 ⟨Nat.zero_le _, Nat.zero_le _⟩) hP hD hS hA [0, 1, 2] [3] rfl rfl (by decide) (by decide) (fun r1 q1 H locs hr1 hP hD hS => ?_)
      try dsimp only at hr1
      have hP : va_P D vwCl [(nb, .inl (g.2.1, 3, .inl fn)), (rd, .inr (4, [.ref tb, yd, .ref nb, .int 0, .int (nI q1), .int es, .int rs])), (tb, .inr (2, [.ref tc, .int (nI L)])), (tc, .inl (g.1, 200, .inl fc))] H := hP
      have hD : va_D A [(nb, .inl (g.2.1, 3, .inl fn)), (rd, .inr (4, [.ref tb, yd, .ref nb, .int 0, .int (nI q1), .int es, .int rs])), (tb, .inr (2, [.ref tc, .int (nI L)])), (tc, .inl (g.1, 200, .inl fc))] := hD
      refine lv_istore_n (lv' := [(3, .int r1), (2, .int 0), (0, .ref rd), (1, .int 1)]) hx hb dX4_readNumbers_21 rfl hl (by decide) rfl (fun ls hl => ?_)
      refine lv_iload_n hx hb dX4_readNumbers_22 rfl (lv_at hl 0 rfl) ?_
      refine lv_iconst (v := (-1)) hx hb dX4_readNumbers_23 (by decide) ?_
      refine lv_icmp_ne (tgt := 29) hx hb dX4_readNumbers_24 (by decide) (fun c_3 => ?_) (fun c_3 => ?_)
      · have c_3h : ¬ r1 = (-1 : Int32) := c_3
        refine lv_aload_n hx hb dX4_readNumbers_29 rfl (lv_at hl 2 rfl) ?_
        refine va_get (D := D) (ci := 4) (v := .ref nb) (C := RX4) (T := TX4) (N := 7) hx hb hts hi4 hown hK hP 1 rfl rfl 2 (by decide) (hts (.fieldLink RX4 18 "SelfCheckingCircuit$TextReader" "numbers" "[I") (by decide +kernel)) (fun _ h9 => h9) rfl dX4_readNumbers_30 ?_
        refine lv_iload_n hx hb dX4_readNumbers_33 rfl (lv_at hl 1 rfl) ?_
        refine lv_iload_n hx hb dX4_readNumbers_34 rfl (lv_at hl 0 rfl) ?_
        refine va_iast hx hb hK hP hD hS 0 1 rfl rfl (by unfold vp_in; decide) dX4_readNumbers_35 (fun H locs hP hD hS => ?_)
        rw [show (0 : Int32).toNatClampNeg = 0 from by decide] at hP hD
        have hP : va_P D vwCl [(nb, .inl (g.2.1, 3, .inl (upd fn 0 r1))), (rd, .inr (4, [.ref tb, yd, .ref nb, .int 0, .int (nI q1), .int es, .int rs])), (tb, .inr (2, [.ref tc, .int (nI L)])), (tc, .inl (g.1, 200, .inl fc))] H := hP
        have hD : va_D A [(nb, .inl (g.2.1, 3, .inl (upd fn 0 r1))), (rd, .inr (4, [.ref tb, yd, .ref nb, .int 0, .int (nI q1), .int es, .int rs])), (tb, .inr (2, [.ref tc, .int (nI L)])), (tc, .inl (g.1, 200, .inl fc))] := hD
        refine lv_aload_n hx hb dX4_readNumbers_36 rfl (lv_at hl 2 rfl) ?_
        refine lv_dup hx hb dX4_readNumbers_37 rfl ?_
        refine va_get (D := D) (ci := 4) (v := .int 0) (C := RX4) (T := TX4) (N := 7) hx hb hts hi4 hown hK hP 1 rfl rfl 3 (by decide) (hts (.fieldLink RX4 65 "SelfCheckingCircuit$TextReader" "count" "I") (by decide +kernel)) (fun _ h9 => h9) rfl dX4_readNumbers_38 ?_
        refine lv_iconst (v := 1) hx hb dX4_readNumbers_41 (by decide) ?_
        refine lv_iadd hx hb dX4_readNumbers_42 ?_
        refine hk_ti 1 (by decide) ?_
        refine va_put (D := D) (ci := 4) (v := .int 1) (ty := .int) (C := RX4) (T := TX4) (N := 7) hx hb hts hi4 tyX4 tyX4_ok nmX4 hown hK hP hD hS 1 rfl rfl 3 (by decide) (hts (.fieldLink RX4 65 "SelfCheckingCircuit$TextReader" "count" "I") (by decide +kernel)) (fun _ h9 => h9) rfl (by decide +kernel) rfl rfl (Nat.le_of_ble_eq_true rfl) dX4_readNumbers_43 (fun H locs hP hD hS => ?_)
        have hP : va_P D vwCl [(nb, .inl (g.2.1, 3, .inl (upd fn 0 r1))), (rd, .inr (4, [.ref tb, yd, .ref nb, .int 1, .int (nI q1), .int es, .int rs])), (tb, .inr (2, [.ref tc, .int (nI L)])), (tc, .inl (g.1, 200, .inl fc))] H := hP
        have hD : va_D A [(nb, .inl (g.2.1, 3, .inl (upd fn 0 r1))), (rd, .inr (4, [.ref tb, yd, .ref nb, .int 1, .int (nI q1), .int es, .int rs])), (tb, .inr (2, [.ref tc, .int (nI L)])), (tc, .inl (g.1, 200, .inl fc))] := hD
        refine lv_aload_n hx hb dX4_readNumbers_46 rfl (lv_at hl 2 rfl) ?_
        refine va_get (D := D) (ci := 4) (v := .ref tb) (C := RX4) (T := TX4) (N := 7) hx hb hts hi4 hown hK hP 1 rfl rfl 0 (by decide) (hts (.fieldLink RX4 22 "SelfCheckingCircuit$TextReader" "text" "LSelfCheckingCircuit$CircuitText;") (by decide +kernel)) (fun _ h9 => h9) rfl dX4_readNumbers_47 ?_
        refine lv_aload_n hx hb dX4_readNumbers_50 rfl (lv_at hl 2 rfl) ?_
        refine va_get (D := D) (ci := 4) (v := .int (nI q1)) (C := RX4) (T := TX4) (N := 7) hx hb hts hi4 hown hK hP 1 rfl rfl 4 (by decide) (hts (.fieldLink RX4 33 "SelfCheckingCircuit$TextReader" "position" "I") (by decide +kernel)) (fun _ h9 => h9) rfl dX4_readNumbers_51 ?_
        refine hk_csi (va_runVN (As := [.int (nI q1)]) (rest := []) ⟨hx, hb, hml, hown, hts⟩ (c2_at l D g ti tb tc fc (nI L) (nI q1) hcn) ⟨va_cnB 1 hts gX4_readNumbers_X2_at_n53 rfl rfl rfl (nm_X4_53 hE.2.1) (hts (.initialized RX2) (by decide +kernel)) (by decide +kernel) ⟨Nat.le_of_ble_eq_true rfl, Nat.le_of_ble_eq_true rfl⟩, hts (.instanceMethod yX2_at) (by decide +kernel), hts (.selects RX2 yX2_at yX2_at) (by decide +kernel)⟩ (hk_roV hE hP hS 2 rfl rfl [2, 3] rfl rfl) rfl rfl hl.1 rfl (lv_room (Nat.le_of_ble_eq_true rfl)) dX4_readNumbers_54 ⟨Nat.zero_le _, Nat.zero_le _⟩) (fun r_4 hr_5 => ?_)
        subst hr_5
        refine hk_ti (nI (ca tx L q1)) (at_n hX (by have := (cP_le hX pz).2.1; have := hr1.1; omega)) ?_
        refine lv_istore (lv' := [(4, .int (nI (ca tx L q1))), (3, .int r1), (2, .int 0), (0, .ref rd), (1, .int 1)]) hx hb dX4_readNumbers_57 hl (by decide) rfl (fun ls hl => ?_)
        refine lv_aload_n hx hb dX4_readNumbers_59 rfl (lv_at hl 3 rfl) ?_
        refine lv_dup hx hb dX4_readNumbers_60 rfl ?_
        refine va_get (D := D) (ci := 4) (v := .int (nI q1)) (C := RX4) (T := TX4) (N := 7) hx hb hts hi4 hown hK hP 1 rfl rfl 4 (by decide) (hts (.fieldLink RX4 33 "SelfCheckingCircuit$TextReader" "position" "I") (by decide +kernel)) (fun _ h9 => h9) rfl dX4_readNumbers_61 ?_
        refine lv_iconst (v := 1) hx hb dX4_readNumbers_64 (by decide) ?_
        refine lv_iadd hx hb dX4_readNumbers_65 ?_
        refine hk_ti (nI (q1 + 1)) (nI_1 q1) ?_
        refine va_put (D := D) (ci := 4) (v := .int (nI (q1 + 1))) (ty := .int) (C := RX4) (T := TX4) (N := 7) hx hb hts hi4 tyX4 tyX4_ok nmX4 hown hK hP hD hS 1 rfl rfl 4 (by decide) (hts (.fieldLink RX4 33 "SelfCheckingCircuit$TextReader" "position" "I") (by decide +kernel)) (fun _ h9 => h9) rfl (by decide +kernel) rfl rfl (Nat.le_of_ble_eq_true rfl) dX4_readNumbers_66 (fun H locs hP hD hS => ?_)
        have hP : va_P D vwCl [(nb, .inl (g.2.1, 3, .inl (upd fn 0 r1))), (rd, .inr (4, [.ref tb, yd, .ref nb, .int 1, .int (nI (q1 + 1)), .int es, .int rs])), (tb, .inr (2, [.ref tc, .int (nI L)])), (tc, .inl (g.1, 200, .inl fc))] H := hP
        have hD : va_D A [(nb, .inl (g.2.1, 3, .inl (upd fn 0 r1))), (rd, .inr (4, [.ref tb, yd, .ref nb, .int 1, .int (nI (q1 + 1)), .int es, .int rs])), (tb, .inr (2, [.ref tc, .int (nI L)])), (tc, .inl (g.1, 200, .inl fc))] := hD
        refine lv_iload hx hb dX4_readNumbers_69 (lv_at hl 0 rfl) ?_
        refine lv_bipush (v := 44) hx hb dX4_readNumbers_71 (by decide) ?_
        refine lv_icmp_eq (tgt := 89) hx hb dX4_readNumbers_73 (by decide) (fun c_6 => ?_) (fun c_6 => ?_)
        · have c_6h : nI (ca tx L q1) = (44 : Int32) := c_6
          refine lv_iinc (v := 1) (lv' := [(2, .int 1), (4, .int (nI (ca tx L q1))), (3, .int r1), (0, .ref rd), (1, .int 1)]) hx hb dX4_readNumbers_89 hl (k := 2) rfl (by decide) (by decide) rfl (fun ls hl => ?_)
          refine lv_goto (tgt := 7) hx hb dX4_readNumbers_92 (by decide) ?_
          refine lv_iload_n hx hb dX4_readNumbers_7 rfl (lv_at hl 0 rfl) ?_
          refine lv_iload_n hx hb dX4_readNumbers_8 rfl (lv_at hl 4 rfl) ?_
          refine lv_icmp_ge (tgt := 95) hx hb dX4_readNumbers_9 (by decide) (fun c_7 => ?_) (fun c_7 => ?_)
          · have c_7h : (1 : Int32) ≤ (1 : Int32) := c_7
            refine lv_iconst (v := 0) hx hb dX4_readNumbers_95 (by decide) ?_
            have hP9 := hP.sub (ws' := [(rd, .inr (4, [.ref tb, yd, .ref nb, .int 1, .int (nI (q1 + 1)), .int es, .int rs])), (tb, .inr (2, [.ref tc, .int (nI L)])), (tc, .inl (g.1, 200, .inl fc)), (nb, .inl (g.2.1, 3, .inl (upd fn 0 r1)))]) [1, 2, 3, 0] rfl
            have hD9 := hD.sub (ws' := [(rd, .inr (4, [.ref tb, yd, .ref nb, .int 1, .int (nI (q1 + 1)), .int es, .int rs])), (tb, .inr (2, [.ref tc, .int (nI L)])), (tc, .inl (g.1, 200, .inl fc)), (nb, .inl (g.2.1, 3, .inl (upd fn 0 r1)))]) [1, 2, 3, 0] (by decide) rfl
            exact W.zret (v := 0) hx hb hr (hk_z0) (fun tt ht hW => ⟨⟨_, (1, (q1 + 1), (upd fn 0 r1)), rfl, by have d1 := nr_y hr1 c_3; have s1_44 := ca_e hX (k := 44) c_6; obtain ⟨e1, -⟩ := hr1; subst e1; exact Or.inr ⟨by unfold s1; simp [d1.1, s1_44], rfl⟩, by rw [ht]; exact hP9, hD9⟩, hS.F ht⟩) hS.2.2 dX4_readNumbers_96
          · have c_7h : ¬ (1 : Int32) ≤ (1 : Int32) := c_7
            exact absurd c_7 (by decide)
        · have c_6h : ¬ nI (ca tx L q1) = (44 : Int32) := c_6
          refine lv_iload hx hb dX4_readNumbers_76 (lv_at hl 0 rfl) ?_
          refine lv_bipush (v := 59) hx hb dX4_readNumbers_78 (by decide) ?_
          refine lv_icmp_ne (tgt := 87) hx hb dX4_readNumbers_80 (by decide) (fun c_8 => ?_) (fun c_8 => ?_)
          · have c_8h : ¬ nI (ca tx L q1) = (59 : Int32) := c_8
            refine lv_iconst (v := 0) hx hb dX4_readNumbers_87 (by decide) ?_
            have hP9 := hP.sub (ws' := [(rd, .inr (4, [.ref tb, yd, .ref nb, .int 1, .int (nI (q1 + 1)), .int es, .int rs])), (tb, .inr (2, [.ref tc, .int (nI L)])), (tc, .inl (g.1, 200, .inl fc)), (nb, .inl (g.2.1, 3, .inl (upd fn 0 r1)))]) [1, 2, 3, 0] rfl
            have hD9 := hD.sub (ws' := [(rd, .inr (4, [.ref tb, yd, .ref nb, .int 1, .int (nI (q1 + 1)), .int es, .int rs])), (tb, .inr (2, [.ref tc, .int (nI L)])), (tc, .inl (g.1, 200, .inl fc)), (nb, .inl (g.2.1, 3, .inl (upd fn 0 r1)))]) [1, 2, 3, 0] (by decide) rfl
            exact W.zret (v := 0) hx hb hr (hk_z0) (fun tt ht hW => ⟨⟨_, (1, (q1 + 1), (upd fn 0 r1)), rfl, by have d1 := nr_y hr1 c_3; have s1_44 := ca_n (k := 44) c_6; have s1_59 := ca_n (k := 59) c_8; obtain ⟨e1, -⟩ := hr1; subst e1; exact Or.inr ⟨by unfold s1; simp [d1.1, s1_44, s1_59], rfl⟩, by rw [ht]; exact hP9, hD9⟩, hS.F ht⟩) hS.2.2 dX4_readNumbers_88
          · have c_8h : nI (ca tx L q1) = (59 : Int32) := c_8
            refine lv_iconst (v := 1) hx hb dX4_readNumbers_83 (by decide) ?_
            refine lv_goto (tgt := 88) hx hb dX4_readNumbers_84 (by decide) ?_
            have hP9 := hP.sub (ws' := [(rd, .inr (4, [.ref tb, yd, .ref nb, .int 1, .int (nI (q1 + 1)), .int es, .int rs])), (tb, .inr (2, [.ref tc, .int (nI L)])), (tc, .inl (g.1, 200, .inl fc)), (nb, .inl (g.2.1, 3, .inl (upd fn 0 r1)))]) [1, 2, 3, 0] rfl
            have hD9 := hD.sub (ws' := [(rd, .inr (4, [.ref tb, yd, .ref nb, .int 1, .int (nI (q1 + 1)), .int es, .int rs])), (tb, .inr (2, [.ref tc, .int (nI L)])), (tc, .inl (g.1, 200, .inl fc)), (nb, .inl (g.2.1, 3, .inl (upd fn 0 r1)))]) [1, 2, 3, 0] (by decide) rfl
            exact W.zret (v := 1) hx hb hr (hk_z1) (fun tt ht hW => ⟨⟨_, (1, (q1 + 1), (upd fn 0 r1)), rfl, by have d1 := nr_y hr1 c_3; have s1_44 := ca_n (k := 44) c_6; have s1_59 := ca_e hX (k := 59) c_8; obtain ⟨e1, -⟩ := hr1; subst e1; exact Or.inl ⟨by unfold s1; simp [d1.1, s1_44, s1_59], rfl, rfl, rfl, by dsimp only; rw [pk_us]; exact d1.2⟩, by rw [ht]; exact hP9, hD9⟩, hS.F ht⟩) hS.2.2 dX4_readNumbers_88
      · have c_3h : r1 = (-1 : Int32) := c_3
        refine lv_iconst (v := 0) hx hb dX4_readNumbers_27 (by decide) ?_
        have hP9 := hP.sub (ws' := [(rd, .inr (4, [.ref tb, yd, .ref nb, .int 0, .int (nI q1), .int es, .int rs])), (tb, .inr (2, [.ref tc, .int (nI L)])), (tc, .inl (g.1, 200, .inl fc)), (nb, .inl (g.2.1, 3, .inl fn))]) [1, 2, 3, 0] rfl
        have hD9 := hD.sub (ws' := [(rd, .inr (4, [.ref tb, yd, .ref nb, .int 0, .int (nI q1), .int es, .int rs])), (tb, .inr (2, [.ref tc, .int (nI L)])), (tc, .inl (g.1, 200, .inl fc)), (nb, .inl (g.2.1, 3, .inl fn))]) [1, 2, 3, 0] (by decide) rfl
        exact W.zret (v := 0) hx hb hr (hk_z0) (fun tt ht hW => ⟨⟨_, (0, q1, fn), rfl, by have d1 := nr_n hX hr1 c_3; obtain ⟨e1, -⟩ := hr1; subst e1; exact Or.inr ⟨by unfold s1; simp [d1], rfl⟩, by rw [ht]; exact hP9, hD9⟩, hS.F ht⟩) hS.2.2 dX4_readNumbers_28
set_option maxHeartbeats 4000000 in
set_option maxRecDepth 100000 in
theorem c4_readNumbers_3 (l : Launch) (D : va_G) (g : hk_G) (ti : Nat) (sz : Nat) (rd : Nat) (tb : Nat) (tc : Nat) (fc : Nat → Int32) (tx : Nat → Nat) (L : Nat) (pz : Nat) (yd : Value) (nb : Nat) (fn : Nat → Int32) (kc : Int32) (es : Int32) (rs : Int32) (hX : TX tx L fc) (hcn : ∀ j, narrow .char (.int (fc j)) = .int (fc j)) (hp : pz < 800) : Met l yX4_readNumbers wsX4_readNumbers ({ frames := 2, cells := 0, slots := 0, locals := 42 }) (va_Pc [.ref rd, .int 3] (hk_In D g ti [(rd, .inr (4, [.ref tb, yd, .ref nb, .int kc, .int (nI pz), .int es, .int rs])), (tb, .inr (2, [.ref tc, .int (nI L)])), (tc, .inl (g.1, 200, .inl fc)), (nb, .inl (g.2.1, 3, .inl fn))] sz)) (va_Qi (S := Int32 × Nat × (Nat → Int32)) (fun r u => N3 tx L pz r u.1 u.2.1 u.2.2) (fun u => hk_Out D (va_A [(rd, .inr (4, [.ref tb, yd, .ref nb, .int kc, .int (nI pz), .int es, .int rs])), (tb, .inr (2, [.ref tc, .int (nI L)])), (tc, .inl (g.1, 200, .inl fc)), (nb, .inl (g.2.1, 3, .inl fn))] sz) (match u with | (k', q', f') => [(rd, .inr (4, [.ref tb, yd, .ref nb, .int k', .int (nI q'), .int es, .int rs])), (tb, .inr (2, [.ref tc, .int (nI L)])), (tc, .inl (g.1, 200, .inl fc)), (nb, .inl (g.2.1, 3, .inl f'))])) (va_A [(rd, .inr (4, [.ref tb, yd, .ref nb, .int kc, .int (nI pz), .int es, .int rs])), (tb, .inr (2, [.ref tc, .int (nI L)])), (tc, .inl (g.1, 200, .inl fc)), (nb, .inl (g.2.1, 3, .inl fn))] sz)) 0 0 (va_A [(rd, .inr (4, [.ref tb, yd, .ref nb, .int kc, .int (nI pz), .int es, .int rs])), (tb, .inr (2, [.ref tc, .int (nI L)])), (tc, .inl (g.1, 200, .inl fc)), (nb, .inl (g.2.1, 3, .inl fn))] sz) := by
  refine Met.ofW (cc := cX4_readNumbers) (maxL := 5) (ret := (some .boolean)) (by decide) rfl ?_
  intro p e s m args below meth c s₁ Bd hml hv
  obtain ⟨rfl, hsz, hP, hD0, hE⟩ := hv
  have hx := Bd.exec
  have hb := Bd.bytes
  have hr := Bd.returns
  have hts := atoms_spec (ws := wsX4_readNumbers) Bd.pre
  have hown : s.vm.findClass RX4 = some m.cls := findClass_of_methodNamed Bd.named
  have hlocks := Bd.notSynchronized
  have hK := hE.1
  have hi4 : ∀ w ∈ wsX40, w ∈ wsX4_readNumbers := fun w h => List.mem_cons_of_mem _ (List.mem_append_left _ (List.mem_append_right _ h))
  subst hsz
  have hD := hD0.self (sz := s.heap.size)
  generalize hAe : va_A [(rd, .inr (4, [.ref tb, yd, .ref nb, .int kc, .int (nI pz), .int es, .int rs])), (tb, .inr (2, [.ref tc, .int (nI L)])), (tc, .inl (g.1, 200, .inl fc)), (nb, .inl (g.2.1, 3, .inl fn))] s.heap.size = A at hD hE ⊢
  have hA : ∀ q : Nat, s.heap.size ≤ q → A q := fun q h => by rw [← hAe]; exact Or.inr h
  have hS : va_S A s.heap s.heap [] := va_S.rf
  have hl := lv_entry ([.ref rd, .int 3]) (n := 5) (Nat.le_of_ble_eq_true rfl)
  rw [lg_entry_eq]
  generalize (lg_sl ([.ref rd, .int 3]) ++ List.replicate (5 - (lg_sl ([.ref rd, .int 3])).length) Slot.unset).toArray = ls at hl ⊢
  have hl : lv_has ls 5 [(0, .ref rd), (1, .int 3)] := hl
  refine lv_aload_n hx hb dX4_readNumbers_0 rfl (lv_at hl 0 rfl) ?_
  refine lv_iconst (v := 0) hx hb dX4_readNumbers_1 (by decide) ?_
  refine va_put (D := D) (ci := 4) (v := .int 0) (ty := .int) (C := RX4) (T := TX4) (N := 7) hx hb hts hi4 tyX4 tyX4_ok nmX4 hown hK hP hD hS 0 rfl rfl 3 (by decide) (hts (.fieldLink RX4 65 "SelfCheckingCircuit$TextReader" "count" "I") (by decide +kernel)) (fun _ h9 => h9) rfl (by decide +kernel) rfl rfl (Nat.le_of_ble_eq_true rfl) dX4_readNumbers_2 (fun H locs hP hD hS => ?_)
  have hP : va_P D vwCl [(rd, .inr (4, [.ref tb, yd, .ref nb, .int 0, .int (nI pz), .int es, .int rs])), (tb, .inr (2, [.ref tc, .int (nI L)])), (tc, .inl (g.1, 200, .inl fc)), (nb, .inl (g.2.1, 3, .inl fn))] H := hP
  have hD : va_D A [(rd, .inr (4, [.ref tb, yd, .ref nb, .int 0, .int (nI pz), .int es, .int rs])), (tb, .inr (2, [.ref tc, .int (nI L)])), (tc, .inl (g.1, 200, .inl fc)), (nb, .inl (g.2.1, 3, .inl fn))] := hD
  refine lv_iconst (v := 0) hx hb dX4_readNumbers_5 (by decide) ?_
  refine lv_istore_n (lv' := [(2, .int 0), (0, .ref rd), (1, .int 3)]) hx hb dX4_readNumbers_6 rfl hl (by decide) rfl (fun ls hl => ?_)
  refine lv_iload_n hx hb dX4_readNumbers_7 rfl (lv_at hl 0 rfl) ?_
  refine lv_iload_n hx hb dX4_readNumbers_8 rfl (lv_at hl 2 rfl) ?_
  refine lv_icmp_ge (tgt := 95) hx hb dX4_readNumbers_9 (by decide) (fun c_1 => ?_) (fun c_1 => ?_)
  · have c_1h : (3 : Int32) ≤ (0 : Int32) := c_1
    exact absurd c_1 (by decide)
  · have c_1h : ¬ (3 : Int32) ≤ (0 : Int32) := c_1
    refine lv_iload_n hx hb dX4_readNumbers_12 rfl (lv_at hl 0 rfl) ?_
    refine lv_iconst (v := 3) hx hb dX4_readNumbers_13 (by decide) ?_
    refine lv_icmp_ge (tgt := 95) hx hb dX4_readNumbers_14 (by decide) (fun c_2 => ?_) (fun c_2 => ?_)
    · have c_2h : (3 : Int32) ≤ (0 : Int32) := c_2
      exact absurd c_2 (by decide)
    · have c_2h : ¬ (3 : Int32) ≤ (0 : Int32) := c_2
      refine lv_aload_n hx hb dX4_readNumbers_17 rfl (lv_at hl 1 rfl) ?_
      refine hk_cmi (wr := [(nb, .inl (g.2.1, 3, .inl fn))]) (va_runV (As := []) (rest := []) ⟨hx, hb, hml, hown, hts⟩ (c4_readNumber l D g ti _ rd tb tc fc tx L pz yd (.ref nb) 0 es rs hX hcn (by omega)) (cwV 0 hts gX4_readNumbers_X4_readNumber rfl rfl rfl (by decide +kernel) ⟨Nat.le_of_ble_eq_true rfl, Nat.le_of_ble_eq_true rfl⟩) (hk_inV hE hP hD hS hA 4 rfl rfl [0, 1, 2] (by decide) rfl rfl) rfl rfl hl.1 rfl (lv_room (Nat.le_of_ble_eq_true rfl)) dX4_readNumbers_18 ⟨Nat.zero_le _, Nat.zero_le _⟩) hP hD hS hA [0, 1, 2] [3] rfl rfl (by decide) (by decide) (fun r1 q1 H locs hr1 hP hD hS => ?_)
      try dsimp only at hr1
      have hP : va_P D vwCl [(nb, .inl (g.2.1, 3, .inl fn)), (rd, .inr (4, [.ref tb, yd, .ref nb, .int 0, .int (nI q1), .int es, .int rs])), (tb, .inr (2, [.ref tc, .int (nI L)])), (tc, .inl (g.1, 200, .inl fc))] H := hP
      have hD : va_D A [(nb, .inl (g.2.1, 3, .inl fn)), (rd, .inr (4, [.ref tb, yd, .ref nb, .int 0, .int (nI q1), .int es, .int rs])), (tb, .inr (2, [.ref tc, .int (nI L)])), (tc, .inl (g.1, 200, .inl fc))] := hD
      refine lv_istore_n (lv' := [(3, .int r1), (2, .int 0), (0, .ref rd), (1, .int 3)]) hx hb dX4_readNumbers_21 rfl hl (by decide) rfl (fun ls hl => ?_)
      refine lv_iload_n hx hb dX4_readNumbers_22 rfl (lv_at hl 0 rfl) ?_
      refine lv_iconst (v := (-1)) hx hb dX4_readNumbers_23 (by decide) ?_
      refine lv_icmp_ne (tgt := 29) hx hb dX4_readNumbers_24 (by decide) (fun c_3 => ?_) (fun c_3 => ?_)
      · have c_3h : ¬ r1 = (-1 : Int32) := c_3
        refine lv_aload_n hx hb dX4_readNumbers_29 rfl (lv_at hl 2 rfl) ?_
        refine va_get (D := D) (ci := 4) (v := .ref nb) (C := RX4) (T := TX4) (N := 7) hx hb hts hi4 hown hK hP 1 rfl rfl 2 (by decide) (hts (.fieldLink RX4 18 "SelfCheckingCircuit$TextReader" "numbers" "[I") (by decide +kernel)) (fun _ h9 => h9) rfl dX4_readNumbers_30 ?_
        refine lv_iload_n hx hb dX4_readNumbers_33 rfl (lv_at hl 1 rfl) ?_
        refine lv_iload_n hx hb dX4_readNumbers_34 rfl (lv_at hl 0 rfl) ?_
        refine va_iast hx hb hK hP hD hS 0 1 rfl rfl (by unfold vp_in; decide) dX4_readNumbers_35 (fun H locs hP hD hS => ?_)
        rw [show (0 : Int32).toNatClampNeg = 0 from by decide] at hP hD
        have hP : va_P D vwCl [(nb, .inl (g.2.1, 3, .inl (upd fn 0 r1))), (rd, .inr (4, [.ref tb, yd, .ref nb, .int 0, .int (nI q1), .int es, .int rs])), (tb, .inr (2, [.ref tc, .int (nI L)])), (tc, .inl (g.1, 200, .inl fc))] H := hP
        have hD : va_D A [(nb, .inl (g.2.1, 3, .inl (upd fn 0 r1))), (rd, .inr (4, [.ref tb, yd, .ref nb, .int 0, .int (nI q1), .int es, .int rs])), (tb, .inr (2, [.ref tc, .int (nI L)])), (tc, .inl (g.1, 200, .inl fc))] := hD
        refine lv_aload_n hx hb dX4_readNumbers_36 rfl (lv_at hl 2 rfl) ?_
        refine lv_dup hx hb dX4_readNumbers_37 rfl ?_
        refine va_get (D := D) (ci := 4) (v := .int 0) (C := RX4) (T := TX4) (N := 7) hx hb hts hi4 hown hK hP 1 rfl rfl 3 (by decide) (hts (.fieldLink RX4 65 "SelfCheckingCircuit$TextReader" "count" "I") (by decide +kernel)) (fun _ h9 => h9) rfl dX4_readNumbers_38 ?_
        refine lv_iconst (v := 1) hx hb dX4_readNumbers_41 (by decide) ?_
        refine lv_iadd hx hb dX4_readNumbers_42 ?_
        refine hk_ti 1 (by decide) ?_
        refine va_put (D := D) (ci := 4) (v := .int 1) (ty := .int) (C := RX4) (T := TX4) (N := 7) hx hb hts hi4 tyX4 tyX4_ok nmX4 hown hK hP hD hS 1 rfl rfl 3 (by decide) (hts (.fieldLink RX4 65 "SelfCheckingCircuit$TextReader" "count" "I") (by decide +kernel)) (fun _ h9 => h9) rfl (by decide +kernel) rfl rfl (Nat.le_of_ble_eq_true rfl) dX4_readNumbers_43 (fun H locs hP hD hS => ?_)
        have hP : va_P D vwCl [(nb, .inl (g.2.1, 3, .inl (upd fn 0 r1))), (rd, .inr (4, [.ref tb, yd, .ref nb, .int 1, .int (nI q1), .int es, .int rs])), (tb, .inr (2, [.ref tc, .int (nI L)])), (tc, .inl (g.1, 200, .inl fc))] H := hP
        have hD : va_D A [(nb, .inl (g.2.1, 3, .inl (upd fn 0 r1))), (rd, .inr (4, [.ref tb, yd, .ref nb, .int 1, .int (nI q1), .int es, .int rs])), (tb, .inr (2, [.ref tc, .int (nI L)])), (tc, .inl (g.1, 200, .inl fc))] := hD
        refine lv_aload_n hx hb dX4_readNumbers_46 rfl (lv_at hl 2 rfl) ?_
        refine va_get (D := D) (ci := 4) (v := .ref tb) (C := RX4) (T := TX4) (N := 7) hx hb hts hi4 hown hK hP 1 rfl rfl 0 (by decide) (hts (.fieldLink RX4 22 "SelfCheckingCircuit$TextReader" "text" "LSelfCheckingCircuit$CircuitText;") (by decide +kernel)) (fun _ h9 => h9) rfl dX4_readNumbers_47 ?_
        refine lv_aload_n hx hb dX4_readNumbers_50 rfl (lv_at hl 2 rfl) ?_
        refine va_get (D := D) (ci := 4) (v := .int (nI q1)) (C := RX4) (T := TX4) (N := 7) hx hb hts hi4 hown hK hP 1 rfl rfl 4 (by decide) (hts (.fieldLink RX4 33 "SelfCheckingCircuit$TextReader" "position" "I") (by decide +kernel)) (fun _ h9 => h9) rfl dX4_readNumbers_51 ?_
        refine hk_csi (va_runVN (As := [.int (nI q1)]) (rest := []) ⟨hx, hb, hml, hown, hts⟩ (c2_at l D g ti tb tc fc (nI L) (nI q1) hcn) ⟨va_cnB 1 hts gX4_readNumbers_X2_at_n53 rfl rfl rfl (nm_X4_53 hE.2.1) (hts (.initialized RX2) (by decide +kernel)) (by decide +kernel) ⟨Nat.le_of_ble_eq_true rfl, Nat.le_of_ble_eq_true rfl⟩, hts (.instanceMethod yX2_at) (by decide +kernel), hts (.selects RX2 yX2_at yX2_at) (by decide +kernel)⟩ (hk_roV hE hP hS 2 rfl rfl [2, 3] rfl rfl) rfl rfl hl.1 rfl (lv_room (Nat.le_of_ble_eq_true rfl)) dX4_readNumbers_54 ⟨Nat.zero_le _, Nat.zero_le _⟩) (fun r_4 hr_5 => ?_)
        subst hr_5
        refine hk_ti (nI (ca tx L q1)) (at_n hX (by have := (cP_le hX pz).2.1; have := hr1.1; omega)) ?_
        refine lv_istore (lv' := [(4, .int (nI (ca tx L q1))), (3, .int r1), (2, .int 0), (0, .ref rd), (1, .int 3)]) hx hb dX4_readNumbers_57 hl (by decide) rfl (fun ls hl => ?_)
        refine lv_aload_n hx hb dX4_readNumbers_59 rfl (lv_at hl 3 rfl) ?_
        refine lv_dup hx hb dX4_readNumbers_60 rfl ?_
        refine va_get (D := D) (ci := 4) (v := .int (nI q1)) (C := RX4) (T := TX4) (N := 7) hx hb hts hi4 hown hK hP 1 rfl rfl 4 (by decide) (hts (.fieldLink RX4 33 "SelfCheckingCircuit$TextReader" "position" "I") (by decide +kernel)) (fun _ h9 => h9) rfl dX4_readNumbers_61 ?_
        refine lv_iconst (v := 1) hx hb dX4_readNumbers_64 (by decide) ?_
        refine lv_iadd hx hb dX4_readNumbers_65 ?_
        refine hk_ti (nI (q1 + 1)) (nI_1 q1) ?_
        refine va_put (D := D) (ci := 4) (v := .int (nI (q1 + 1))) (ty := .int) (C := RX4) (T := TX4) (N := 7) hx hb hts hi4 tyX4 tyX4_ok nmX4 hown hK hP hD hS 1 rfl rfl 4 (by decide) (hts (.fieldLink RX4 33 "SelfCheckingCircuit$TextReader" "position" "I") (by decide +kernel)) (fun _ h9 => h9) rfl (by decide +kernel) rfl rfl (Nat.le_of_ble_eq_true rfl) dX4_readNumbers_66 (fun H locs hP hD hS => ?_)
        have hP : va_P D vwCl [(nb, .inl (g.2.1, 3, .inl (upd fn 0 r1))), (rd, .inr (4, [.ref tb, yd, .ref nb, .int 1, .int (nI (q1 + 1)), .int es, .int rs])), (tb, .inr (2, [.ref tc, .int (nI L)])), (tc, .inl (g.1, 200, .inl fc))] H := hP
        have hD : va_D A [(nb, .inl (g.2.1, 3, .inl (upd fn 0 r1))), (rd, .inr (4, [.ref tb, yd, .ref nb, .int 1, .int (nI (q1 + 1)), .int es, .int rs])), (tb, .inr (2, [.ref tc, .int (nI L)])), (tc, .inl (g.1, 200, .inl fc))] := hD
        refine lv_iload hx hb dX4_readNumbers_69 (lv_at hl 0 rfl) ?_
        refine lv_bipush (v := 44) hx hb dX4_readNumbers_71 (by decide) ?_
        refine lv_icmp_eq (tgt := 89) hx hb dX4_readNumbers_73 (by decide) (fun c_6 => ?_) (fun c_6 => ?_)
        · have c_6h : nI (ca tx L q1) = (44 : Int32) := c_6
          refine lv_iinc (v := 1) (lv' := [(2, .int 1), (4, .int (nI (ca tx L q1))), (3, .int r1), (0, .ref rd), (1, .int 3)]) hx hb dX4_readNumbers_89 hl (k := 2) rfl (by decide) (by decide) rfl (fun ls hl => ?_)
          refine lv_goto (tgt := 7) hx hb dX4_readNumbers_92 (by decide) ?_
          refine lv_iload_n hx hb dX4_readNumbers_7 rfl (lv_at hl 0 rfl) ?_
          refine lv_iload_n hx hb dX4_readNumbers_8 rfl (lv_at hl 4 rfl) ?_
          refine lv_icmp_ge (tgt := 95) hx hb dX4_readNumbers_9 (by decide) (fun c_7 => ?_) (fun c_7 => ?_)
          · have c_7h : (3 : Int32) ≤ (1 : Int32) := c_7
            exact absurd c_7 (by decide)
          · have c_7h : ¬ (3 : Int32) ≤ (1 : Int32) := c_7
            refine lv_iload_n hx hb dX4_readNumbers_12 rfl (lv_at hl 0 rfl) ?_
            refine lv_iconst (v := 3) hx hb dX4_readNumbers_13 (by decide) ?_
            refine lv_icmp_ge (tgt := 95) hx hb dX4_readNumbers_14 (by decide) (fun c_8 => ?_) (fun c_8 => ?_)
            · have c_8h : (3 : Int32) ≤ (1 : Int32) := c_8
              exact absurd c_8 (by decide)
            · have c_8h : ¬ (3 : Int32) ≤ (1 : Int32) := c_8
              refine lv_aload_n hx hb dX4_readNumbers_17 rfl (lv_at hl 3 rfl) ?_
              refine hk_cmi (wr := [(nb, .inl (g.2.1, 3, .inl (upd fn 0 r1)))]) (va_runV (As := []) (rest := []) ⟨hx, hb, hml, hown, hts⟩ (c4_readNumber l D g ti _ rd tb tc fc tx L (q1 + 1) yd (.ref nb) 1 es rs hX hcn (by have := (cP_le hX pz).2.1; have := hr1.1; omega)) (cwV 0 hts gX4_readNumbers_X4_readNumber rfl rfl rfl (by decide +kernel) ⟨Nat.le_of_ble_eq_true rfl, Nat.le_of_ble_eq_true rfl⟩) (hk_inV hE hP hD hS hA 4 rfl rfl [1, 2, 3] (by decide) rfl rfl) rfl rfl hl.1 rfl (lv_room (Nat.le_of_ble_eq_true rfl)) dX4_readNumbers_18 ⟨Nat.zero_le _, Nat.zero_le _⟩) hP hD hS hA [1, 2, 3] [0] rfl rfl (by decide) (by decide) (fun r2 q2 H locs hr2 hP hD hS => ?_)
              try dsimp only at hr2
              have hP : va_P D vwCl [(nb, .inl (g.2.1, 3, .inl (upd fn 0 r1))), (rd, .inr (4, [.ref tb, yd, .ref nb, .int 1, .int (nI q2), .int es, .int rs])), (tb, .inr (2, [.ref tc, .int (nI L)])), (tc, .inl (g.1, 200, .inl fc))] H := hP
              have hD : va_D A [(nb, .inl (g.2.1, 3, .inl (upd fn 0 r1))), (rd, .inr (4, [.ref tb, yd, .ref nb, .int 1, .int (nI q2), .int es, .int rs])), (tb, .inr (2, [.ref tc, .int (nI L)])), (tc, .inl (g.1, 200, .inl fc))] := hD
              refine lv_istore_n (lv' := [(3, .int r2), (2, .int 1), (4, .int (nI (ca tx L q1))), (0, .ref rd), (1, .int 3)]) hx hb dX4_readNumbers_21 rfl hl (by decide) rfl (fun ls hl => ?_)
              refine lv_iload_n hx hb dX4_readNumbers_22 rfl (lv_at hl 0 rfl) ?_
              refine lv_iconst (v := (-1)) hx hb dX4_readNumbers_23 (by decide) ?_
              refine lv_icmp_ne (tgt := 29) hx hb dX4_readNumbers_24 (by decide) (fun c_9 => ?_) (fun c_9 => ?_)
              · have c_9h : ¬ r2 = (-1 : Int32) := c_9
                refine lv_aload_n hx hb dX4_readNumbers_29 rfl (lv_at hl 3 rfl) ?_
                refine va_get (D := D) (ci := 4) (v := .ref nb) (C := RX4) (T := TX4) (N := 7) hx hb hts hi4 hown hK hP 1 rfl rfl 2 (by decide) (hts (.fieldLink RX4 18 "SelfCheckingCircuit$TextReader" "numbers" "[I") (by decide +kernel)) (fun _ h9 => h9) rfl dX4_readNumbers_30 ?_
                refine lv_iload_n hx hb dX4_readNumbers_33 rfl (lv_at hl 1 rfl) ?_
                refine lv_iload_n hx hb dX4_readNumbers_34 rfl (lv_at hl 0 rfl) ?_
                refine va_iast hx hb hK hP hD hS 0 1 rfl rfl (by unfold vp_in; decide) dX4_readNumbers_35 (fun H locs hP hD hS => ?_)
                rw [show (1 : Int32).toNatClampNeg = 1 from by decide] at hP hD
                have hP : va_P D vwCl [(nb, .inl (g.2.1, 3, .inl (upd (upd fn 0 r1) 1 r2))), (rd, .inr (4, [.ref tb, yd, .ref nb, .int 1, .int (nI q2), .int es, .int rs])), (tb, .inr (2, [.ref tc, .int (nI L)])), (tc, .inl (g.1, 200, .inl fc))] H := hP
                have hD : va_D A [(nb, .inl (g.2.1, 3, .inl (upd (upd fn 0 r1) 1 r2))), (rd, .inr (4, [.ref tb, yd, .ref nb, .int 1, .int (nI q2), .int es, .int rs])), (tb, .inr (2, [.ref tc, .int (nI L)])), (tc, .inl (g.1, 200, .inl fc))] := hD
                refine lv_aload_n hx hb dX4_readNumbers_36 rfl (lv_at hl 3 rfl) ?_
                refine lv_dup hx hb dX4_readNumbers_37 rfl ?_
                refine va_get (D := D) (ci := 4) (v := .int 1) (C := RX4) (T := TX4) (N := 7) hx hb hts hi4 hown hK hP 1 rfl rfl 3 (by decide) (hts (.fieldLink RX4 65 "SelfCheckingCircuit$TextReader" "count" "I") (by decide +kernel)) (fun _ h9 => h9) rfl dX4_readNumbers_38 ?_
                refine lv_iconst (v := 1) hx hb dX4_readNumbers_41 (by decide) ?_
                refine lv_iadd hx hb dX4_readNumbers_42 ?_
                refine hk_ti 2 (by decide) ?_
                refine va_put (D := D) (ci := 4) (v := .int 2) (ty := .int) (C := RX4) (T := TX4) (N := 7) hx hb hts hi4 tyX4 tyX4_ok nmX4 hown hK hP hD hS 1 rfl rfl 3 (by decide) (hts (.fieldLink RX4 65 "SelfCheckingCircuit$TextReader" "count" "I") (by decide +kernel)) (fun _ h9 => h9) rfl (by decide +kernel) rfl rfl (Nat.le_of_ble_eq_true rfl) dX4_readNumbers_43 (fun H locs hP hD hS => ?_)
                have hP : va_P D vwCl [(nb, .inl (g.2.1, 3, .inl (upd (upd fn 0 r1) 1 r2))), (rd, .inr (4, [.ref tb, yd, .ref nb, .int 2, .int (nI q2), .int es, .int rs])), (tb, .inr (2, [.ref tc, .int (nI L)])), (tc, .inl (g.1, 200, .inl fc))] H := hP
                have hD : va_D A [(nb, .inl (g.2.1, 3, .inl (upd (upd fn 0 r1) 1 r2))), (rd, .inr (4, [.ref tb, yd, .ref nb, .int 2, .int (nI q2), .int es, .int rs])), (tb, .inr (2, [.ref tc, .int (nI L)])), (tc, .inl (g.1, 200, .inl fc))] := hD
                refine lv_aload_n hx hb dX4_readNumbers_46 rfl (lv_at hl 3 rfl) ?_
                refine va_get (D := D) (ci := 4) (v := .ref tb) (C := RX4) (T := TX4) (N := 7) hx hb hts hi4 hown hK hP 1 rfl rfl 0 (by decide) (hts (.fieldLink RX4 22 "SelfCheckingCircuit$TextReader" "text" "LSelfCheckingCircuit$CircuitText;") (by decide +kernel)) (fun _ h9 => h9) rfl dX4_readNumbers_47 ?_
                refine lv_aload_n hx hb dX4_readNumbers_50 rfl (lv_at hl 3 rfl) ?_
                refine va_get (D := D) (ci := 4) (v := .int (nI q2)) (C := RX4) (T := TX4) (N := 7) hx hb hts hi4 hown hK hP 1 rfl rfl 4 (by decide) (hts (.fieldLink RX4 33 "SelfCheckingCircuit$TextReader" "position" "I") (by decide +kernel)) (fun _ h9 => h9) rfl dX4_readNumbers_51 ?_
                refine hk_csi (va_runVN (As := [.int (nI q2)]) (rest := []) ⟨hx, hb, hml, hown, hts⟩ (c2_at l D g ti tb tc fc (nI L) (nI q2) hcn) ⟨va_cnB 1 hts gX4_readNumbers_X2_at_n53 rfl rfl rfl (nm_X4_53 hE.2.1) (hts (.initialized RX2) (by decide +kernel)) (by decide +kernel) ⟨Nat.le_of_ble_eq_true rfl, Nat.le_of_ble_eq_true rfl⟩, hts (.instanceMethod yX2_at) (by decide +kernel), hts (.selects RX2 yX2_at yX2_at) (by decide +kernel)⟩ (hk_roV hE hP hS 2 rfl rfl [2, 3] rfl rfl) rfl rfl hl.1 rfl (lv_room (Nat.le_of_ble_eq_true rfl)) dX4_readNumbers_54 ⟨Nat.zero_le _, Nat.zero_le _⟩) (fun r_10 hr_11 => ?_)
                subst hr_11
                refine hk_ti (nI (ca tx L q2)) (at_n hX (by have := (cP_le hX pz).2.1; have := hr1.1; have := hr2.1; have := (cP_le hX (q1 + 1)).2.1; omega)) ?_
                refine lv_istore (lv' := [(4, .int (nI (ca tx L q2))), (3, .int r2), (2, .int 1), (0, .ref rd), (1, .int 3)]) hx hb dX4_readNumbers_57 hl (by decide) rfl (fun ls hl => ?_)
                refine lv_aload_n hx hb dX4_readNumbers_59 rfl (lv_at hl 3 rfl) ?_
                refine lv_dup hx hb dX4_readNumbers_60 rfl ?_
                refine va_get (D := D) (ci := 4) (v := .int (nI q2)) (C := RX4) (T := TX4) (N := 7) hx hb hts hi4 hown hK hP 1 rfl rfl 4 (by decide) (hts (.fieldLink RX4 33 "SelfCheckingCircuit$TextReader" "position" "I") (by decide +kernel)) (fun _ h9 => h9) rfl dX4_readNumbers_61 ?_
                refine lv_iconst (v := 1) hx hb dX4_readNumbers_64 (by decide) ?_
                refine lv_iadd hx hb dX4_readNumbers_65 ?_
                refine hk_ti (nI (q2 + 1)) (nI_1 q2) ?_
                refine va_put (D := D) (ci := 4) (v := .int (nI (q2 + 1))) (ty := .int) (C := RX4) (T := TX4) (N := 7) hx hb hts hi4 tyX4 tyX4_ok nmX4 hown hK hP hD hS 1 rfl rfl 4 (by decide) (hts (.fieldLink RX4 33 "SelfCheckingCircuit$TextReader" "position" "I") (by decide +kernel)) (fun _ h9 => h9) rfl (by decide +kernel) rfl rfl (Nat.le_of_ble_eq_true rfl) dX4_readNumbers_66 (fun H locs hP hD hS => ?_)
                have hP : va_P D vwCl [(nb, .inl (g.2.1, 3, .inl (upd (upd fn 0 r1) 1 r2))), (rd, .inr (4, [.ref tb, yd, .ref nb, .int 2, .int (nI (q2 + 1)), .int es, .int rs])), (tb, .inr (2, [.ref tc, .int (nI L)])), (tc, .inl (g.1, 200, .inl fc))] H := hP
                have hD : va_D A [(nb, .inl (g.2.1, 3, .inl (upd (upd fn 0 r1) 1 r2))), (rd, .inr (4, [.ref tb, yd, .ref nb, .int 2, .int (nI (q2 + 1)), .int es, .int rs])), (tb, .inr (2, [.ref tc, .int (nI L)])), (tc, .inl (g.1, 200, .inl fc))] := hD
                refine lv_iload hx hb dX4_readNumbers_69 (lv_at hl 0 rfl) ?_
                refine lv_bipush (v := 44) hx hb dX4_readNumbers_71 (by decide) ?_
                refine lv_icmp_eq (tgt := 89) hx hb dX4_readNumbers_73 (by decide) (fun c_12 => ?_) (fun c_12 => ?_)
                · have c_12h : nI (ca tx L q2) = (44 : Int32) := c_12
                  refine lv_iinc (v := 2) (lv' := [(2, .int 2), (4, .int (nI (ca tx L q2))), (3, .int r2), (0, .ref rd), (1, .int 3)]) hx hb dX4_readNumbers_89 hl (k := 2) rfl (by decide) (by decide) rfl (fun ls hl => ?_)
                  refine lv_goto (tgt := 7) hx hb dX4_readNumbers_92 (by decide) ?_
                  refine lv_iload_n hx hb dX4_readNumbers_7 rfl (lv_at hl 0 rfl) ?_
                  refine lv_iload_n hx hb dX4_readNumbers_8 rfl (lv_at hl 4 rfl) ?_
                  refine lv_icmp_ge (tgt := 95) hx hb dX4_readNumbers_9 (by decide) (fun c_13 => ?_) (fun c_13 => ?_)
                  · have c_13h : (3 : Int32) ≤ (2 : Int32) := c_13
                    exact absurd c_13 (by decide)
                  · have c_13h : ¬ (3 : Int32) ≤ (2 : Int32) := c_13
                    refine lv_iload_n hx hb dX4_readNumbers_12 rfl (lv_at hl 0 rfl) ?_
                    refine lv_iconst (v := 3) hx hb dX4_readNumbers_13 (by decide) ?_
                    refine lv_icmp_ge (tgt := 95) hx hb dX4_readNumbers_14 (by decide) (fun c_14 => ?_) (fun c_14 => ?_)
                    · have c_14h : (3 : Int32) ≤ (2 : Int32) := c_14
                      exact absurd c_14 (by decide)
                    · have c_14h : ¬ (3 : Int32) ≤ (2 : Int32) := c_14
                      refine lv_aload_n hx hb dX4_readNumbers_17 rfl (lv_at hl 3 rfl) ?_
                      refine hk_cmi (wr := [(nb, .inl (g.2.1, 3, .inl (upd (upd fn 0 r1) 1 r2)))]) (va_runV (As := []) (rest := []) ⟨hx, hb, hml, hown, hts⟩ (c4_readNumber l D g ti _ rd tb tc fc tx L (q2 + 1) yd (.ref nb) 2 es rs hX hcn (by have := (cP_le hX pz).2.1; have := hr1.1; have := hr2.1; have := (cP_le hX (q1 + 1)).2.1; omega)) (cwV 0 hts gX4_readNumbers_X4_readNumber rfl rfl rfl (by decide +kernel) ⟨Nat.le_of_ble_eq_true rfl, Nat.le_of_ble_eq_true rfl⟩) (hk_inV hE hP hD hS hA 4 rfl rfl [1, 2, 3] (by decide) rfl rfl) rfl rfl hl.1 rfl (lv_room (Nat.le_of_ble_eq_true rfl)) dX4_readNumbers_18 ⟨Nat.zero_le _, Nat.zero_le _⟩) hP hD hS hA [1, 2, 3] [0] rfl rfl (by decide) (by decide) (fun r3 q3 H locs hr3 hP hD hS => ?_)
                      try dsimp only at hr3
                      have hP : va_P D vwCl [(nb, .inl (g.2.1, 3, .inl (upd (upd fn 0 r1) 1 r2))), (rd, .inr (4, [.ref tb, yd, .ref nb, .int 2, .int (nI q3), .int es, .int rs])), (tb, .inr (2, [.ref tc, .int (nI L)])), (tc, .inl (g.1, 200, .inl fc))] H := hP
                      have hD : va_D A [(nb, .inl (g.2.1, 3, .inl (upd (upd fn 0 r1) 1 r2))), (rd, .inr (4, [.ref tb, yd, .ref nb, .int 2, .int (nI q3), .int es, .int rs])), (tb, .inr (2, [.ref tc, .int (nI L)])), (tc, .inl (g.1, 200, .inl fc))] := hD
                      refine lv_istore_n (lv' := [(3, .int r3), (2, .int 2), (4, .int (nI (ca tx L q2))), (0, .ref rd), (1, .int 3)]) hx hb dX4_readNumbers_21 rfl hl (by decide) rfl (fun ls hl => ?_)
                      refine lv_iload_n hx hb dX4_readNumbers_22 rfl (lv_at hl 0 rfl) ?_
                      refine lv_iconst (v := (-1)) hx hb dX4_readNumbers_23 (by decide) ?_
                      refine lv_icmp_ne (tgt := 29) hx hb dX4_readNumbers_24 (by decide) (fun c_15 => ?_) (fun c_15 => ?_)
                      · have c_15h : ¬ r3 = (-1 : Int32) := c_15
                        refine lv_aload_n hx hb dX4_readNumbers_29 rfl (lv_at hl 3 rfl) ?_
                        refine va_get (D := D) (ci := 4) (v := .ref nb) (C := RX4) (T := TX4) (N := 7) hx hb hts hi4 hown hK hP 1 rfl rfl 2 (by decide) (hts (.fieldLink RX4 18 "SelfCheckingCircuit$TextReader" "numbers" "[I") (by decide +kernel)) (fun _ h9 => h9) rfl dX4_readNumbers_30 ?_
                        refine lv_iload_n hx hb dX4_readNumbers_33 rfl (lv_at hl 1 rfl) ?_
                        refine lv_iload_n hx hb dX4_readNumbers_34 rfl (lv_at hl 0 rfl) ?_
                        refine va_iast hx hb hK hP hD hS 0 1 rfl rfl (by unfold vp_in; decide) dX4_readNumbers_35 (fun H locs hP hD hS => ?_)
                        rw [show (2 : Int32).toNatClampNeg = 2 from by decide] at hP hD
                        have hP : va_P D vwCl [(nb, .inl (g.2.1, 3, .inl (upd (upd (upd fn 0 r1) 1 r2) 2 r3))), (rd, .inr (4, [.ref tb, yd, .ref nb, .int 2, .int (nI q3), .int es, .int rs])), (tb, .inr (2, [.ref tc, .int (nI L)])), (tc, .inl (g.1, 200, .inl fc))] H := hP
                        have hD : va_D A [(nb, .inl (g.2.1, 3, .inl (upd (upd (upd fn 0 r1) 1 r2) 2 r3))), (rd, .inr (4, [.ref tb, yd, .ref nb, .int 2, .int (nI q3), .int es, .int rs])), (tb, .inr (2, [.ref tc, .int (nI L)])), (tc, .inl (g.1, 200, .inl fc))] := hD
                        refine lv_aload_n hx hb dX4_readNumbers_36 rfl (lv_at hl 3 rfl) ?_
                        refine lv_dup hx hb dX4_readNumbers_37 rfl ?_
                        refine va_get (D := D) (ci := 4) (v := .int 2) (C := RX4) (T := TX4) (N := 7) hx hb hts hi4 hown hK hP 1 rfl rfl 3 (by decide) (hts (.fieldLink RX4 65 "SelfCheckingCircuit$TextReader" "count" "I") (by decide +kernel)) (fun _ h9 => h9) rfl dX4_readNumbers_38 ?_
                        refine lv_iconst (v := 1) hx hb dX4_readNumbers_41 (by decide) ?_
                        refine lv_iadd hx hb dX4_readNumbers_42 ?_
                        refine hk_ti 3 (by decide) ?_
                        refine va_put (D := D) (ci := 4) (v := .int 3) (ty := .int) (C := RX4) (T := TX4) (N := 7) hx hb hts hi4 tyX4 tyX4_ok nmX4 hown hK hP hD hS 1 rfl rfl 3 (by decide) (hts (.fieldLink RX4 65 "SelfCheckingCircuit$TextReader" "count" "I") (by decide +kernel)) (fun _ h9 => h9) rfl (by decide +kernel) rfl rfl (Nat.le_of_ble_eq_true rfl) dX4_readNumbers_43 (fun H locs hP hD hS => ?_)
                        have hP : va_P D vwCl [(nb, .inl (g.2.1, 3, .inl (upd (upd (upd fn 0 r1) 1 r2) 2 r3))), (rd, .inr (4, [.ref tb, yd, .ref nb, .int 3, .int (nI q3), .int es, .int rs])), (tb, .inr (2, [.ref tc, .int (nI L)])), (tc, .inl (g.1, 200, .inl fc))] H := hP
                        have hD : va_D A [(nb, .inl (g.2.1, 3, .inl (upd (upd (upd fn 0 r1) 1 r2) 2 r3))), (rd, .inr (4, [.ref tb, yd, .ref nb, .int 3, .int (nI q3), .int es, .int rs])), (tb, .inr (2, [.ref tc, .int (nI L)])), (tc, .inl (g.1, 200, .inl fc))] := hD
                        refine lv_aload_n hx hb dX4_readNumbers_46 rfl (lv_at hl 3 rfl) ?_
                        refine va_get (D := D) (ci := 4) (v := .ref tb) (C := RX4) (T := TX4) (N := 7) hx hb hts hi4 hown hK hP 1 rfl rfl 0 (by decide) (hts (.fieldLink RX4 22 "SelfCheckingCircuit$TextReader" "text" "LSelfCheckingCircuit$CircuitText;") (by decide +kernel)) (fun _ h9 => h9) rfl dX4_readNumbers_47 ?_
                        refine lv_aload_n hx hb dX4_readNumbers_50 rfl (lv_at hl 3 rfl) ?_
                        refine va_get (D := D) (ci := 4) (v := .int (nI q3)) (C := RX4) (T := TX4) (N := 7) hx hb hts hi4 hown hK hP 1 rfl rfl 4 (by decide) (hts (.fieldLink RX4 33 "SelfCheckingCircuit$TextReader" "position" "I") (by decide +kernel)) (fun _ h9 => h9) rfl dX4_readNumbers_51 ?_
                        refine hk_csi (va_runVN (As := [.int (nI q3)]) (rest := []) ⟨hx, hb, hml, hown, hts⟩ (c2_at l D g ti tb tc fc (nI L) (nI q3) hcn) ⟨va_cnB 1 hts gX4_readNumbers_X2_at_n53 rfl rfl rfl (nm_X4_53 hE.2.1) (hts (.initialized RX2) (by decide +kernel)) (by decide +kernel) ⟨Nat.le_of_ble_eq_true rfl, Nat.le_of_ble_eq_true rfl⟩, hts (.instanceMethod yX2_at) (by decide +kernel), hts (.selects RX2 yX2_at yX2_at) (by decide +kernel)⟩ (hk_roV hE hP hS 2 rfl rfl [2, 3] rfl rfl) rfl rfl hl.1 rfl (lv_room (Nat.le_of_ble_eq_true rfl)) dX4_readNumbers_54 ⟨Nat.zero_le _, Nat.zero_le _⟩) (fun r_16 hr_17 => ?_)
                        subst hr_17
                        refine hk_ti (nI (ca tx L q3)) (at_n hX (by have := (cP_le hX pz).2.1; have := hr1.1; have := hr2.1; have := hr3.1; have := (cP_le hX (q1 + 1)).2.1; have := (cP_le hX (q2 + 1)).2.1; omega)) ?_
                        refine lv_istore (lv' := [(4, .int (nI (ca tx L q3))), (3, .int r3), (2, .int 2), (0, .ref rd), (1, .int 3)]) hx hb dX4_readNumbers_57 hl (by decide) rfl (fun ls hl => ?_)
                        refine lv_aload_n hx hb dX4_readNumbers_59 rfl (lv_at hl 3 rfl) ?_
                        refine lv_dup hx hb dX4_readNumbers_60 rfl ?_
                        refine va_get (D := D) (ci := 4) (v := .int (nI q3)) (C := RX4) (T := TX4) (N := 7) hx hb hts hi4 hown hK hP 1 rfl rfl 4 (by decide) (hts (.fieldLink RX4 33 "SelfCheckingCircuit$TextReader" "position" "I") (by decide +kernel)) (fun _ h9 => h9) rfl dX4_readNumbers_61 ?_
                        refine lv_iconst (v := 1) hx hb dX4_readNumbers_64 (by decide) ?_
                        refine lv_iadd hx hb dX4_readNumbers_65 ?_
                        refine hk_ti (nI (q3 + 1)) (nI_1 q3) ?_
                        refine va_put (D := D) (ci := 4) (v := .int (nI (q3 + 1))) (ty := .int) (C := RX4) (T := TX4) (N := 7) hx hb hts hi4 tyX4 tyX4_ok nmX4 hown hK hP hD hS 1 rfl rfl 4 (by decide) (hts (.fieldLink RX4 33 "SelfCheckingCircuit$TextReader" "position" "I") (by decide +kernel)) (fun _ h9 => h9) rfl (by decide +kernel) rfl rfl (Nat.le_of_ble_eq_true rfl) dX4_readNumbers_66 (fun H locs hP hD hS => ?_)
                        have hP : va_P D vwCl [(nb, .inl (g.2.1, 3, .inl (upd (upd (upd fn 0 r1) 1 r2) 2 r3))), (rd, .inr (4, [.ref tb, yd, .ref nb, .int 3, .int (nI (q3 + 1)), .int es, .int rs])), (tb, .inr (2, [.ref tc, .int (nI L)])), (tc, .inl (g.1, 200, .inl fc))] H := hP
                        have hD : va_D A [(nb, .inl (g.2.1, 3, .inl (upd (upd (upd fn 0 r1) 1 r2) 2 r3))), (rd, .inr (4, [.ref tb, yd, .ref nb, .int 3, .int (nI (q3 + 1)), .int es, .int rs])), (tb, .inr (2, [.ref tc, .int (nI L)])), (tc, .inl (g.1, 200, .inl fc))] := hD
                        refine lv_iload hx hb dX4_readNumbers_69 (lv_at hl 0 rfl) ?_
                        refine lv_bipush (v := 44) hx hb dX4_readNumbers_71 (by decide) ?_
                        refine lv_icmp_eq (tgt := 89) hx hb dX4_readNumbers_73 (by decide) (fun c_18 => ?_) (fun c_18 => ?_)
                        · have c_18h : nI (ca tx L q3) = (44 : Int32) := c_18
                          refine lv_iinc (v := 3) (lv' := [(2, .int 3), (4, .int (nI (ca tx L q3))), (3, .int r3), (0, .ref rd), (1, .int 3)]) hx hb dX4_readNumbers_89 hl (k := 2) rfl (by decide) (by decide) rfl (fun ls hl => ?_)
                          refine lv_goto (tgt := 7) hx hb dX4_readNumbers_92 (by decide) ?_
                          refine lv_iload_n hx hb dX4_readNumbers_7 rfl (lv_at hl 0 rfl) ?_
                          refine lv_iload_n hx hb dX4_readNumbers_8 rfl (lv_at hl 4 rfl) ?_
                          refine lv_icmp_ge (tgt := 95) hx hb dX4_readNumbers_9 (by decide) (fun c_19 => ?_) (fun c_19 => ?_)
                          · have c_19h : (3 : Int32) ≤ (3 : Int32) := c_19
                            refine lv_iconst (v := 0) hx hb dX4_readNumbers_95 (by decide) ?_
                            have hP9 := hP.sub (ws' := [(rd, .inr (4, [.ref tb, yd, .ref nb, .int 3, .int (nI (q3 + 1)), .int es, .int rs])), (tb, .inr (2, [.ref tc, .int (nI L)])), (tc, .inl (g.1, 200, .inl fc)), (nb, .inl (g.2.1, 3, .inl (upd (upd (upd fn 0 r1) 1 r2) 2 r3)))]) [1, 2, 3, 0] rfl
                            have hD9 := hD.sub (ws' := [(rd, .inr (4, [.ref tb, yd, .ref nb, .int 3, .int (nI (q3 + 1)), .int es, .int rs])), (tb, .inr (2, [.ref tc, .int (nI L)])), (tc, .inl (g.1, 200, .inl fc)), (nb, .inl (g.2.1, 3, .inl (upd (upd (upd fn 0 r1) 1 r2) 2 r3)))]) [1, 2, 3, 0] (by decide) rfl
                            exact W.zret (v := 0) hx hb hr (hk_z0) (fun tt ht hW => ⟨⟨_, (3, (q3 + 1), (upd (upd (upd fn 0 r1) 1 r2) 2 r3)), rfl, by have d1 := nr_y hr1 c_3; have s1_44 := ca_e hX (k := 44) c_6; have d2 := nr_y hr2 c_9; have s2_44 := ca_e hX (k := 44) c_12; have d3 := nr_y hr3 c_15; have s3_44 := ca_e hX (k := 44) c_18; obtain ⟨e1, -⟩ := hr1; obtain ⟨e2, -⟩ := hr2; obtain ⟨e3, -⟩ := hr3; subst e1; subst e2; subst e3; exact Or.inr ⟨by unfold ga gb; simp [d1.1, s1_44, d2.1, s2_44, d3.1, s3_44], Or.inl rfl⟩, by rw [ht]; exact hP9, hD9⟩, hS.F ht⟩) hS.2.2 dX4_readNumbers_96
                          · have c_19h : ¬ (3 : Int32) ≤ (3 : Int32) := c_19
                            exact absurd c_19 (by decide)
                        · have c_18h : ¬ nI (ca tx L q3) = (44 : Int32) := c_18
                          refine lv_iload hx hb dX4_readNumbers_76 (lv_at hl 0 rfl) ?_
                          refine lv_bipush (v := 59) hx hb dX4_readNumbers_78 (by decide) ?_
                          refine lv_icmp_ne (tgt := 87) hx hb dX4_readNumbers_80 (by decide) (fun c_20 => ?_) (fun c_20 => ?_)
                          · have c_20h : ¬ nI (ca tx L q3) = (59 : Int32) := c_20
                            refine lv_iconst (v := 0) hx hb dX4_readNumbers_87 (by decide) ?_
                            have hP9 := hP.sub (ws' := [(rd, .inr (4, [.ref tb, yd, .ref nb, .int 3, .int (nI (q3 + 1)), .int es, .int rs])), (tb, .inr (2, [.ref tc, .int (nI L)])), (tc, .inl (g.1, 200, .inl fc)), (nb, .inl (g.2.1, 3, .inl (upd (upd (upd fn 0 r1) 1 r2) 2 r3)))]) [1, 2, 3, 0] rfl
                            have hD9 := hD.sub (ws' := [(rd, .inr (4, [.ref tb, yd, .ref nb, .int 3, .int (nI (q3 + 1)), .int es, .int rs])), (tb, .inr (2, [.ref tc, .int (nI L)])), (tc, .inl (g.1, 200, .inl fc)), (nb, .inl (g.2.1, 3, .inl (upd (upd (upd fn 0 r1) 1 r2) 2 r3)))]) [1, 2, 3, 0] (by decide) rfl
                            exact W.zret (v := 0) hx hb hr (hk_z0) (fun tt ht hW => ⟨⟨_, (3, (q3 + 1), (upd (upd (upd fn 0 r1) 1 r2) 2 r3)), rfl, by have d1 := nr_y hr1 c_3; have s1_44 := ca_e hX (k := 44) c_6; have d2 := nr_y hr2 c_9; have s2_44 := ca_e hX (k := 44) c_12; have d3 := nr_y hr3 c_15; have s3_44 := ca_n (k := 44) c_18; have s3_59 := ca_n (k := 59) c_20; obtain ⟨e1, -⟩ := hr1; obtain ⟨e2, -⟩ := hr2; obtain ⟨e3, -⟩ := hr3; subst e1; subst e2; subst e3; exact Or.inr ⟨by unfold ga gb; simp [d1.1, s1_44, d2.1, s2_44, d3.1, s3_44, s3_59], Or.inl rfl⟩, by rw [ht]; exact hP9, hD9⟩, hS.F ht⟩) hS.2.2 dX4_readNumbers_88
                          · have c_20h : nI (ca tx L q3) = (59 : Int32) := c_20
                            refine lv_iconst (v := 1) hx hb dX4_readNumbers_83 (by decide) ?_
                            refine lv_goto (tgt := 88) hx hb dX4_readNumbers_84 (by decide) ?_
                            have hP9 := hP.sub (ws' := [(rd, .inr (4, [.ref tb, yd, .ref nb, .int 3, .int (nI (q3 + 1)), .int es, .int rs])), (tb, .inr (2, [.ref tc, .int (nI L)])), (tc, .inl (g.1, 200, .inl fc)), (nb, .inl (g.2.1, 3, .inl (upd (upd (upd fn 0 r1) 1 r2) 2 r3)))]) [1, 2, 3, 0] rfl
                            have hD9 := hD.sub (ws' := [(rd, .inr (4, [.ref tb, yd, .ref nb, .int 3, .int (nI (q3 + 1)), .int es, .int rs])), (tb, .inr (2, [.ref tc, .int (nI L)])), (tc, .inl (g.1, 200, .inl fc)), (nb, .inl (g.2.1, 3, .inl (upd (upd (upd fn 0 r1) 1 r2) 2 r3)))]) [1, 2, 3, 0] (by decide) rfl
                            exact W.zret (v := 1) hx hb hr (hk_z1) (fun tt ht hW => ⟨⟨_, (3, (q3 + 1), (upd (upd (upd fn 0 r1) 1 r2) 2 r3)), rfl, by have d1 := nr_y hr1 c_3; have s1_44 := ca_e hX (k := 44) c_6; have d2 := nr_y hr2 c_9; have s2_44 := ca_e hX (k := 44) c_12; have d3 := nr_y hr3 c_15; have s3_44 := ca_n (k := 44) c_18; have s3_59 := ca_e hX (k := 59) c_20; obtain ⟨e1, -⟩ := hr1; obtain ⟨e2, -⟩ := hr2; obtain ⟨e3, -⟩ := hr3; subst e1; subst e2; subst e3; exact Or.inl ⟨by unfold ga gb; simp [d1.1, s1_44, d2.1, s2_44, d3.1, s3_44, s3_59], rfl, by unfold gk gb; simp [d1.1, s1_44, d2.1, s2_44, d3.1, s3_44, s3_59]; rfl, by unfold gq gb; simp [d1.1, s1_44, d2.1, s2_44, d3.1, s3_44, s3_59], by dsimp only; rw [pk_un (by decide), pk_un (by decide), pk_us]; exact d1.2, by dsimp only; rw [pk_un (by decide), pk_us]; exact d2.2, fun _ => by dsimp only; rw [pk_us]; exact d3.2⟩, by rw [ht]; exact hP9, hD9⟩, hS.F ht⟩) hS.2.2 dX4_readNumbers_88
                      · have c_15h : r3 = (-1 : Int32) := c_15
                        refine lv_iconst (v := 0) hx hb dX4_readNumbers_27 (by decide) ?_
                        have hP9 := hP.sub (ws' := [(rd, .inr (4, [.ref tb, yd, .ref nb, .int 2, .int (nI q3), .int es, .int rs])), (tb, .inr (2, [.ref tc, .int (nI L)])), (tc, .inl (g.1, 200, .inl fc)), (nb, .inl (g.2.1, 3, .inl (upd (upd fn 0 r1) 1 r2)))]) [1, 2, 3, 0] rfl
                        have hD9 := hD.sub (ws' := [(rd, .inr (4, [.ref tb, yd, .ref nb, .int 2, .int (nI q3), .int es, .int rs])), (tb, .inr (2, [.ref tc, .int (nI L)])), (tc, .inl (g.1, 200, .inl fc)), (nb, .inl (g.2.1, 3, .inl (upd (upd fn 0 r1) 1 r2)))]) [1, 2, 3, 0] (by decide) rfl
                        exact W.zret (v := 0) hx hb hr (hk_z0) (fun tt ht hW => ⟨⟨_, (2, q3, (upd (upd fn 0 r1) 1 r2)), rfl, by have d1 := nr_y hr1 c_3; have s1_44 := ca_e hX (k := 44) c_6; have d2 := nr_y hr2 c_9; have s2_44 := ca_e hX (k := 44) c_12; have d3 := nr_n hX hr3 c_15; obtain ⟨e1, -⟩ := hr1; obtain ⟨e2, -⟩ := hr2; obtain ⟨e3, -⟩ := hr3; subst e1; subst e2; subst e3; exact Or.inr ⟨by unfold ga gb; simp [d1.1, s1_44, d2.1, s2_44, d3], Or.inl rfl⟩, by rw [ht]; exact hP9, hD9⟩, hS.F ht⟩) hS.2.2 dX4_readNumbers_28
                · have c_12h : ¬ nI (ca tx L q2) = (44 : Int32) := c_12
                  refine lv_iload hx hb dX4_readNumbers_76 (lv_at hl 0 rfl) ?_
                  refine lv_bipush (v := 59) hx hb dX4_readNumbers_78 (by decide) ?_
                  refine lv_icmp_ne (tgt := 87) hx hb dX4_readNumbers_80 (by decide) (fun c_21 => ?_) (fun c_21 => ?_)
                  · have c_21h : ¬ nI (ca tx L q2) = (59 : Int32) := c_21
                    refine lv_iconst (v := 0) hx hb dX4_readNumbers_87 (by decide) ?_
                    have hP9 := hP.sub (ws' := [(rd, .inr (4, [.ref tb, yd, .ref nb, .int 2, .int (nI (q2 + 1)), .int es, .int rs])), (tb, .inr (2, [.ref tc, .int (nI L)])), (tc, .inl (g.1, 200, .inl fc)), (nb, .inl (g.2.1, 3, .inl (upd (upd fn 0 r1) 1 r2)))]) [1, 2, 3, 0] rfl
                    have hD9 := hD.sub (ws' := [(rd, .inr (4, [.ref tb, yd, .ref nb, .int 2, .int (nI (q2 + 1)), .int es, .int rs])), (tb, .inr (2, [.ref tc, .int (nI L)])), (tc, .inl (g.1, 200, .inl fc)), (nb, .inl (g.2.1, 3, .inl (upd (upd fn 0 r1) 1 r2)))]) [1, 2, 3, 0] (by decide) rfl
                    exact W.zret (v := 0) hx hb hr (hk_z0) (fun tt ht hW => ⟨⟨_, (2, (q2 + 1), (upd (upd fn 0 r1) 1 r2)), rfl, by have d1 := nr_y hr1 c_3; have s1_44 := ca_e hX (k := 44) c_6; have d2 := nr_y hr2 c_9; have s2_44 := ca_n (k := 44) c_12; have s2_59 := ca_n (k := 59) c_21; obtain ⟨e1, -⟩ := hr1; obtain ⟨e2, -⟩ := hr2; subst e1; subst e2; exact Or.inr ⟨by unfold ga gb; simp [d1.1, s1_44, d2.1, s2_44, s2_59], Or.inl rfl⟩, by rw [ht]; exact hP9, hD9⟩, hS.F ht⟩) hS.2.2 dX4_readNumbers_88
                  · have c_21h : nI (ca tx L q2) = (59 : Int32) := c_21
                    refine lv_iconst (v := 1) hx hb dX4_readNumbers_83 (by decide) ?_
                    refine lv_goto (tgt := 88) hx hb dX4_readNumbers_84 (by decide) ?_
                    have hP9 := hP.sub (ws' := [(rd, .inr (4, [.ref tb, yd, .ref nb, .int 2, .int (nI (q2 + 1)), .int es, .int rs])), (tb, .inr (2, [.ref tc, .int (nI L)])), (tc, .inl (g.1, 200, .inl fc)), (nb, .inl (g.2.1, 3, .inl (upd (upd fn 0 r1) 1 r2)))]) [1, 2, 3, 0] rfl
                    have hD9 := hD.sub (ws' := [(rd, .inr (4, [.ref tb, yd, .ref nb, .int 2, .int (nI (q2 + 1)), .int es, .int rs])), (tb, .inr (2, [.ref tc, .int (nI L)])), (tc, .inl (g.1, 200, .inl fc)), (nb, .inl (g.2.1, 3, .inl (upd (upd fn 0 r1) 1 r2)))]) [1, 2, 3, 0] (by decide) rfl
                    exact W.zret (v := 1) hx hb hr (hk_z1) (fun tt ht hW => ⟨⟨_, (2, (q2 + 1), (upd (upd fn 0 r1) 1 r2)), rfl, by have d1 := nr_y hr1 c_3; have s1_44 := ca_e hX (k := 44) c_6; have d2 := nr_y hr2 c_9; have s2_44 := ca_n (k := 44) c_12; have s2_59 := ca_e hX (k := 59) c_21; obtain ⟨e1, -⟩ := hr1; obtain ⟨e2, -⟩ := hr2; subst e1; subst e2; exact Or.inl ⟨by unfold ga gb; simp [d1.1, s1_44, d2.1, s2_44, s2_59], rfl, by unfold gk gb; simp [d1.1, s1_44, d2.1, s2_44, s2_59]; rfl, by unfold gq gb; simp [d1.1, s1_44, d2.1, s2_44, s2_59], by dsimp only; rw [pk_un (by decide), pk_us]; exact d1.2, by dsimp only; rw [pk_us]; exact d2.2, by unfold gb; simp [d1.1, s1_44, d2.1, s2_44, s2_59]⟩, by rw [ht]; exact hP9, hD9⟩, hS.F ht⟩) hS.2.2 dX4_readNumbers_88
              · have c_9h : r2 = (-1 : Int32) := c_9
                refine lv_iconst (v := 0) hx hb dX4_readNumbers_27 (by decide) ?_
                have hP9 := hP.sub (ws' := [(rd, .inr (4, [.ref tb, yd, .ref nb, .int 1, .int (nI q2), .int es, .int rs])), (tb, .inr (2, [.ref tc, .int (nI L)])), (tc, .inl (g.1, 200, .inl fc)), (nb, .inl (g.2.1, 3, .inl (upd fn 0 r1)))]) [1, 2, 3, 0] rfl
                have hD9 := hD.sub (ws' := [(rd, .inr (4, [.ref tb, yd, .ref nb, .int 1, .int (nI q2), .int es, .int rs])), (tb, .inr (2, [.ref tc, .int (nI L)])), (tc, .inl (g.1, 200, .inl fc)), (nb, .inl (g.2.1, 3, .inl (upd fn 0 r1)))]) [1, 2, 3, 0] (by decide) rfl
                exact W.zret (v := 0) hx hb hr (hk_z0) (fun tt ht hW => ⟨⟨_, (1, q2, (upd fn 0 r1)), rfl, by have d1 := nr_y hr1 c_3; have s1_44 := ca_e hX (k := 44) c_6; have d2 := nr_n hX hr2 c_9; obtain ⟨e1, -⟩ := hr1; obtain ⟨e2, -⟩ := hr2; subst e1; subst e2; exact Or.inr ⟨by unfold ga gb; simp [d1.1, s1_44, d2], Or.inl rfl⟩, by rw [ht]; exact hP9, hD9⟩, hS.F ht⟩) hS.2.2 dX4_readNumbers_28
        · have c_6h : ¬ nI (ca tx L q1) = (44 : Int32) := c_6
          refine lv_iload hx hb dX4_readNumbers_76 (lv_at hl 0 rfl) ?_
          refine lv_bipush (v := 59) hx hb dX4_readNumbers_78 (by decide) ?_
          refine lv_icmp_ne (tgt := 87) hx hb dX4_readNumbers_80 (by decide) (fun c_22 => ?_) (fun c_22 => ?_)
          · have c_22h : ¬ nI (ca tx L q1) = (59 : Int32) := c_22
            refine lv_iconst (v := 0) hx hb dX4_readNumbers_87 (by decide) ?_
            have hP9 := hP.sub (ws' := [(rd, .inr (4, [.ref tb, yd, .ref nb, .int 1, .int (nI (q1 + 1)), .int es, .int rs])), (tb, .inr (2, [.ref tc, .int (nI L)])), (tc, .inl (g.1, 200, .inl fc)), (nb, .inl (g.2.1, 3, .inl (upd fn 0 r1)))]) [1, 2, 3, 0] rfl
            have hD9 := hD.sub (ws' := [(rd, .inr (4, [.ref tb, yd, .ref nb, .int 1, .int (nI (q1 + 1)), .int es, .int rs])), (tb, .inr (2, [.ref tc, .int (nI L)])), (tc, .inl (g.1, 200, .inl fc)), (nb, .inl (g.2.1, 3, .inl (upd fn 0 r1)))]) [1, 2, 3, 0] (by decide) rfl
            exact W.zret (v := 0) hx hb hr (hk_z0) (fun tt ht hW => ⟨⟨_, (1, (q1 + 1), (upd fn 0 r1)), rfl, by have d1 := nr_y hr1 c_3; have s1_44 := ca_n (k := 44) c_6; have s1_59 := ca_n (k := 59) c_22; obtain ⟨e1, -⟩ := hr1; subst e1; exact Or.inr ⟨by unfold ga gb; simp [d1.1, s1_44, s1_59], Or.inl rfl⟩, by rw [ht]; exact hP9, hD9⟩, hS.F ht⟩) hS.2.2 dX4_readNumbers_88
          · have c_22h : nI (ca tx L q1) = (59 : Int32) := c_22
            refine lv_iconst (v := 1) hx hb dX4_readNumbers_83 (by decide) ?_
            refine lv_goto (tgt := 88) hx hb dX4_readNumbers_84 (by decide) ?_
            have hP9 := hP.sub (ws' := [(rd, .inr (4, [.ref tb, yd, .ref nb, .int 1, .int (nI (q1 + 1)), .int es, .int rs])), (tb, .inr (2, [.ref tc, .int (nI L)])), (tc, .inl (g.1, 200, .inl fc)), (nb, .inl (g.2.1, 3, .inl (upd fn 0 r1)))]) [1, 2, 3, 0] rfl
            have hD9 := hD.sub (ws' := [(rd, .inr (4, [.ref tb, yd, .ref nb, .int 1, .int (nI (q1 + 1)), .int es, .int rs])), (tb, .inr (2, [.ref tc, .int (nI L)])), (tc, .inl (g.1, 200, .inl fc)), (nb, .inl (g.2.1, 3, .inl (upd fn 0 r1)))]) [1, 2, 3, 0] (by decide) rfl
            exact W.zret (v := 1) hx hb hr (hk_z1) (fun tt ht hW => ⟨⟨_, (1, (q1 + 1), (upd fn 0 r1)), rfl, by have d1 := nr_y hr1 c_3; have s1_44 := ca_n (k := 44) c_6; have s1_59 := ca_e hX (k := 59) c_22; obtain ⟨e1, -⟩ := hr1; subst e1; exact Or.inr ⟨by unfold ga gb; simp [d1.1, s1_44, s1_59], Or.inr rfl⟩, by rw [ht]; exact hP9, hD9⟩, hS.F ht⟩) hS.2.2 dX4_readNumbers_88
      · have c_3h : r1 = (-1 : Int32) := c_3
        refine lv_iconst (v := 0) hx hb dX4_readNumbers_27 (by decide) ?_
        have hP9 := hP.sub (ws' := [(rd, .inr (4, [.ref tb, yd, .ref nb, .int 0, .int (nI q1), .int es, .int rs])), (tb, .inr (2, [.ref tc, .int (nI L)])), (tc, .inl (g.1, 200, .inl fc)), (nb, .inl (g.2.1, 3, .inl fn))]) [1, 2, 3, 0] rfl
        have hD9 := hD.sub (ws' := [(rd, .inr (4, [.ref tb, yd, .ref nb, .int 0, .int (nI q1), .int es, .int rs])), (tb, .inr (2, [.ref tc, .int (nI L)])), (tc, .inl (g.1, 200, .inl fc)), (nb, .inl (g.2.1, 3, .inl fn))]) [1, 2, 3, 0] (by decide) rfl
        exact W.zret (v := 0) hx hb hr (hk_z0) (fun tt ht hW => ⟨⟨_, (0, q1, fn), rfl, by have d1 := nr_n hX hr1 c_3; obtain ⟨e1, -⟩ := hr1; subst e1; exact Or.inr ⟨by unfold ga gb; simp [d1], Or.inl rfl⟩, by rw [ht]; exact hP9, hD9⟩, hS.F ht⟩) hS.2.2 dX4_readNumbers_28
