set_option maxHeartbeats 4000000 in
set_option maxRecDepth 100000 in
theorem c0_isInCode (l : Launch) (D : va_G) (g : hk_G) (ti : Nat) (sz : Nat) (z : Nat) (q1 : Nat) (q2 : Nat) (q3 : Nat) (q4 : Nat) (q5 : Nat) (nc : Nat → Int64) (oc : Nat → Int64) (rc : Nat → Int64) (tl : Nat → Int64) (ef : Nat → Int64) (a : Nat) (t : Nat) (f1 : Nat) (f2 : Nat) (on : Nat) (ft : Nat → Int32) (fa : Nat → Int32) (fb : Nat → Int32) (fo : Nat → Int32) (n : Nat) (N : Nat) (o : Nat) (nm : Int64) (cd : Nat) (wt : Nat) (x : Nat) (hC : Cok n N o cd wt) : Met l yX0_isInCode wsX0_isInCode ({ frames := 3, cells := 0, slots := 0, locals := 74 }) (va_Pc [.ref z, .int (nI x)] (hk_In D g ti [(z, .inr (0, [.ref a, .ref q1, .ref q2, .ref q3, .ref q4, .ref q5])), (q1, .inl (g.2.2.1, 30, .inr (.inl nc))), (q2, .inl (g.2.2.1, 6, .inr (.inl oc))), (q3, .inl (g.2.2.1, 6, .inr (.inl rc))), (q4, .inl (g.2.2.1, 3, .inr (.inl tl))), (q5, .inl (g.2.2.1, 64, .inr (.inl ef))), (a, .inr (1, [.ref t, .ref f1, .ref f2, .ref on, .int (nI n), .int (nI N), .int (nI o), .long nm, .int (nI cd), .int (nI wt)])), (t, .inl (g.2.1, 30, .inl ft)), (f1, .inl (g.2.1, 30, .inl fa)), (f2, .inl (g.2.1, 30, .inl fb)), (on, .inl (g.2.1, 6, .inl fo))] sz)) (va_Qi (S := (Nat → Int64) × (Nat → Int64)) (fun r _ => r = bI (ic cd o wt (fun k => x.testBit k))) (fun u => hk_Out D (va_A [(z, .inr (0, [.ref a, .ref q1, .ref q2, .ref q3, .ref q4, .ref q5])), (q1, .inl (g.2.2.1, 30, .inr (.inl nc))), (q2, .inl (g.2.2.1, 6, .inr (.inl oc))), (q3, .inl (g.2.2.1, 6, .inr (.inl rc))), (q4, .inl (g.2.2.1, 3, .inr (.inl tl))), (q5, .inl (g.2.2.1, 64, .inr (.inl ef))), (a, .inr (1, [.ref t, .ref f1, .ref f2, .ref on, .int (nI n), .int (nI N), .int (nI o), .long nm, .int (nI cd), .int (nI wt)])), (t, .inl (g.2.1, 30, .inl ft)), (f1, .inl (g.2.1, 30, .inl fa)), (f2, .inl (g.2.1, 30, .inl fb)), (on, .inl (g.2.1, 6, .inl fo))] sz) (match u with | (g2, g4) => [(z, .inr (0, [.ref a, .ref q1, .ref q2, .ref q3, .ref q4, .ref q5])), (q1, .inl (g.2.2.1, 30, .inr (.inl nc))), (q2, .inl (g.2.2.1, 6, .inr (.inl g2))), (q3, .inl (g.2.2.1, 6, .inr (.inl rc))), (q4, .inl (g.2.2.1, 3, .inr (.inl g4))), (q5, .inl (g.2.2.1, 64, .inr (.inl ef))), (a, .inr (1, [.ref t, .ref f1, .ref f2, .ref on, .int (nI n), .int (nI N), .int (nI o), .long nm, .int (nI cd), .int (nI wt)])), (t, .inl (g.2.1, 30, .inl ft)), (f1, .inl (g.2.1, 30, .inl fa)), (f2, .inl (g.2.1, 30, .inl fb)), (on, .inl (g.2.1, 6, .inl fo))])) (va_A [(z, .inr (0, [.ref a, .ref q1, .ref q2, .ref q3, .ref q4, .ref q5])), (q1, .inl (g.2.2.1, 30, .inr (.inl nc))), (q2, .inl (g.2.2.1, 6, .inr (.inl oc))), (q3, .inl (g.2.2.1, 6, .inr (.inl rc))), (q4, .inl (g.2.2.1, 3, .inr (.inl tl))), (q5, .inl (g.2.2.1, 64, .inr (.inl ef))), (a, .inr (1, [.ref t, .ref f1, .ref f2, .ref on, .int (nI n), .int (nI N), .int (nI o), .long nm, .int (nI cd), .int (nI wt)])), (t, .inl (g.2.1, 30, .inl ft)), (f1, .inl (g.2.1, 30, .inl fa)), (f2, .inl (g.2.1, 30, .inl fb)), (on, .inl (g.2.1, 6, .inl fo))] sz)) 0 0 (va_A [(z, .inr (0, [.ref a, .ref q1, .ref q2, .ref q3, .ref q4, .ref q5])), (q1, .inl (g.2.2.1, 30, .inr (.inl nc))), (q2, .inl (g.2.2.1, 6, .inr (.inl oc))), (q3, .inl (g.2.2.1, 6, .inr (.inl rc))), (q4, .inl (g.2.2.1, 3, .inr (.inl tl))), (q5, .inl (g.2.2.1, 64, .inr (.inl ef))), (a, .inr (1, [.ref t, .ref f1, .ref f2, .ref on, .int (nI n), .int (nI N), .int (nI o), .long nm, .int (nI cd), .int (nI wt)])), (t, .inl (g.2.1, 30, .inl ft)), (f1, .inl (g.2.1, 30, .inl fa)), (f2, .inl (g.2.1, 30, .inl fb)), (on, .inl (g.2.1, 6, .inl fo))] sz) := by
  refine Met.ofW (cc := cX0_isInCode) (maxL := 3) (ret := (some .boolean)) (by decide) rfl ?_
  intro p e s m args below meth c s₁ Bd hml hv
  obtain ⟨rfl, hsz, hP, hD0, hE⟩ := hv
  have hx := Bd.exec
  have hb := Bd.bytes
  have hr := Bd.returns
  have hts := atoms_spec (ws := wsX0_isInCode) Bd.pre
  have hown : s.vm.findClass RX0 = some m.cls := findClass_of_methodNamed Bd.named
  have hlocks := Bd.notSynchronized
  have hK := hE.1
  have hi0 : ∀ w ∈ wsX00, w ∈ wsX0_isInCode := fun w h => List.mem_cons_of_mem _ (List.mem_append_left _ (List.mem_append_right _ h))
  subst hsz
  have hD := hD0.self (sz := s.heap.size)
  generalize hAe : va_A [(z, .inr (0, [.ref a, .ref q1, .ref q2, .ref q3, .ref q4, .ref q5])), (q1, .inl (g.2.2.1, 30, .inr (.inl nc))), (q2, .inl (g.2.2.1, 6, .inr (.inl oc))), (q3, .inl (g.2.2.1, 6, .inr (.inl rc))), (q4, .inl (g.2.2.1, 3, .inr (.inl tl))), (q5, .inl (g.2.2.1, 64, .inr (.inl ef))), (a, .inr (1, [.ref t, .ref f1, .ref f2, .ref on, .int (nI n), .int (nI N), .int (nI o), .long nm, .int (nI cd), .int (nI wt)])), (t, .inl (g.2.1, 30, .inl ft)), (f1, .inl (g.2.1, 30, .inl fa)), (f2, .inl (g.2.1, 30, .inl fb)), (on, .inl (g.2.1, 6, .inl fo))] s.heap.size = A at hD hE ⊢
  have hA : ∀ q : Nat, s.heap.size ≤ q → A q := fun q h => by rw [← hAe]; exact Or.inr h
  have hS : va_S A s.heap s.heap [] := va_S.rf
  have hl := lv_entry ([.ref z, .int (nI x)]) (n := 3) (Nat.le_of_ble_eq_true rfl)
  rw [lg_entry_eq]
  generalize (lg_sl ([.ref z, .int (nI x)]) ++ List.replicate (3 - (lg_sl ([.ref z, .int (nI x)])).length) Slot.unset).toArray = ls at hl ⊢
  have hl : lv_has ls 3 [(0, .ref z), (1, .int (nI x))] := hl
  refine lv_iconst (v := 0) hx hb dX0_isInCode_0 (by decide) ?_
  refine lv_istore_n (lv' := [(2, .int 0), (0, .ref z), (1, .int (nI x))]) hx hb dX0_isInCode_1 rfl hl (by decide) rfl (fun ls hl => ?_)
  refine lv_iload_n hx hb dX0_isInCode_2 rfl (lv_at hl 0 rfl) ?_
  refine lv_bipush (v := 6) hx hb dX0_isInCode_3 (by decide) ?_
  refine lv_icmp_ge (tgt := 25) hx hb dX0_isInCode_5 (by decide) (fun c_1 => ?_) (fun c_1 => ?_)
  · have c_1h : (6 : Int32) ≤ (0 : Int32) := c_1
    exact absurd c_1 (by decide)
  · have c_1h : ¬ (6 : Int32) ≤ (0 : Int32) := c_1
    refine lv_aload_n hx hb dX0_isInCode_8 rfl (lv_at hl 1 rfl) ?_
    refine va_get (D := D) (ci := 0) (v := .ref q2) (C := RX0) (T := TX0) (N := 6) hx hb hts hi0 hown hK hP 0 rfl rfl 2 (by decide) (hts (.fieldLink RX0 15 "SelfCheckingCircuit$Analysis" "outputColumns" "[J") (by decide +kernel)) (fun _ h9 => h9) rfl dX0_isInCode_9 ?_
    refine lv_iload_n hx hb dX0_isInCode_12 rfl (lv_at hl 0 rfl) ?_
    refine lv_iload_n hx hb dX0_isInCode_13 rfl (lv_at hl 2 rfl) ?_
    refine lv_iload_n hx hb dX0_isInCode_14 rfl (lv_at hl 0 rfl) ?_
    refine hk_csl (va_runS (As := [.int (nI x), .int 0]) (rest := [.int 0, .ref q2]) ⟨hx, hb, hml, hown, hts⟩ (c0_columnOfBit l D g ti (nI x) 0 (by decide)) (va_cwS 2 hts gX0_isInCode_X0_columnOfBit rfl rfl rfl (by decide +kernel) ⟨Nat.le_of_ble_eq_true rfl, Nat.le_of_ble_eq_true rfl⟩) (hk_roS hE hP hS [] rfl) rfl rfl hl.1 rfl (lv_room (Nat.le_of_ble_eq_true rfl)) dX0_isInCode_15 ⟨Nat.zero_le _, Nat.zero_le _⟩) (fun r_2 hr_3 => ?_)
    subst hr_3
    refine va_last hx hb hK hP hD hS 2 2 rfl rfl (by unfold vp_in; decide) dX0_isInCode_18 (fun H locs hP hD hS => ?_)
    rw [show (0 : Int32).toNatClampNeg = 0 from by decide] at hP hD
    have hP : va_P D vwCl [(z, .inr (0, [.ref a, .ref q1, .ref q2, .ref q3, .ref q4, .ref q5])), (q1, .inl (g.2.2.1, 30, .inr (.inl nc))), (q2, .inl (g.2.2.1, 6, .inr (.inl (vp_updL oc 0 (bL (ib (nI x) 0)))))), (q3, .inl (g.2.2.1, 6, .inr (.inl rc))), (q4, .inl (g.2.2.1, 3, .inr (.inl tl))), (q5, .inl (g.2.2.1, 64, .inr (.inl ef))), (a, .inr (1, [.ref t, .ref f1, .ref f2, .ref on, .int (nI n), .int (nI N), .int (nI o), .long nm, .int (nI cd), .int (nI wt)])), (t, .inl (g.2.1, 30, .inl ft)), (f1, .inl (g.2.1, 30, .inl fa)), (f2, .inl (g.2.1, 30, .inl fb)), (on, .inl (g.2.1, 6, .inl fo))] H := hP
    have hD : va_D A [(z, .inr (0, [.ref a, .ref q1, .ref q2, .ref q3, .ref q4, .ref q5])), (q1, .inl (g.2.2.1, 30, .inr (.inl nc))), (q2, .inl (g.2.2.1, 6, .inr (.inl (vp_updL oc 0 (bL (ib (nI x) 0)))))), (q3, .inl (g.2.2.1, 6, .inr (.inl rc))), (q4, .inl (g.2.2.1, 3, .inr (.inl tl))), (q5, .inl (g.2.2.1, 64, .inr (.inl ef))), (a, .inr (1, [.ref t, .ref f1, .ref f2, .ref on, .int (nI n), .int (nI N), .int (nI o), .long nm, .int (nI cd), .int (nI wt)])), (t, .inl (g.2.1, 30, .inl ft)), (f1, .inl (g.2.1, 30, .inl fa)), (f2, .inl (g.2.1, 30, .inl fb)), (on, .inl (g.2.1, 6, .inl fo))] := hD
    refine lv_iinc (v := 1) (lv' := [(2, .int 1), (0, .ref z), (1, .int (nI x))]) hx hb dX0_isInCode_19 hl (k := 0) rfl (by decide) (by decide) rfl (fun ls hl => ?_)
    refine lv_goto (tgt := 2) hx hb dX0_isInCode_22 (by decide) ?_
    refine lv_iload_n hx hb dX0_isInCode_2 rfl (lv_at hl 0 rfl) ?_
    refine lv_bipush (v := 6) hx hb dX0_isInCode_3 (by decide) ?_
    refine lv_icmp_ge (tgt := 25) hx hb dX0_isInCode_5 (by decide) (fun c_4 => ?_) (fun c_4 => ?_)
    · have c_4h : (6 : Int32) ≤ (1 : Int32) := c_4
      exact absurd c_4 (by decide)
    · have c_4h : ¬ (6 : Int32) ≤ (1 : Int32) := c_4
      refine lv_aload_n hx hb dX0_isInCode_8 rfl (lv_at hl 1 rfl) ?_
      refine va_get (D := D) (ci := 0) (v := .ref q2) (C := RX0) (T := TX0) (N := 6) hx hb hts hi0 hown hK hP 0 rfl rfl 2 (by decide) (hts (.fieldLink RX0 15 "SelfCheckingCircuit$Analysis" "outputColumns" "[J") (by decide +kernel)) (fun _ h9 => h9) rfl dX0_isInCode_9 ?_
      refine lv_iload_n hx hb dX0_isInCode_12 rfl (lv_at hl 0 rfl) ?_
      refine lv_iload_n hx hb dX0_isInCode_13 rfl (lv_at hl 2 rfl) ?_
      refine lv_iload_n hx hb dX0_isInCode_14 rfl (lv_at hl 0 rfl) ?_
      refine hk_csl (va_runS (As := [.int (nI x), .int 1]) (rest := [.int 1, .ref q2]) ⟨hx, hb, hml, hown, hts⟩ (c0_columnOfBit l D g ti (nI x) 1 (by decide)) (va_cwS 2 hts gX0_isInCode_X0_columnOfBit rfl rfl rfl (by decide +kernel) ⟨Nat.le_of_ble_eq_true rfl, Nat.le_of_ble_eq_true rfl⟩) (hk_roS hE hP hS [] rfl) rfl rfl hl.1 rfl (lv_room (Nat.le_of_ble_eq_true rfl)) dX0_isInCode_15 ⟨Nat.zero_le _, Nat.zero_le _⟩) (fun r_5 hr_6 => ?_)
      subst hr_6
      refine va_last hx hb hK hP hD hS 2 2 rfl rfl (by unfold vp_in; decide) dX0_isInCode_18 (fun H locs hP hD hS => ?_)
      rw [show (1 : Int32).toNatClampNeg = 1 from by decide] at hP hD
      have hP : va_P D vwCl [(z, .inr (0, [.ref a, .ref q1, .ref q2, .ref q3, .ref q4, .ref q5])), (q1, .inl (g.2.2.1, 30, .inr (.inl nc))), (q2, .inl (g.2.2.1, 6, .inr (.inl (vp_updL (vp_updL oc 0 (bL (ib (nI x) 0))) 1 (bL (ib (nI x) 1)))))), (q3, .inl (g.2.2.1, 6, .inr (.inl rc))), (q4, .inl (g.2.2.1, 3, .inr (.inl tl))), (q5, .inl (g.2.2.1, 64, .inr (.inl ef))), (a, .inr (1, [.ref t, .ref f1, .ref f2, .ref on, .int (nI n), .int (nI N), .int (nI o), .long nm, .int (nI cd), .int (nI wt)])), (t, .inl (g.2.1, 30, .inl ft)), (f1, .inl (g.2.1, 30, .inl fa)), (f2, .inl (g.2.1, 30, .inl fb)), (on, .inl (g.2.1, 6, .inl fo))] H := hP
      have hD : va_D A [(z, .inr (0, [.ref a, .ref q1, .ref q2, .ref q3, .ref q4, .ref q5])), (q1, .inl (g.2.2.1, 30, .inr (.inl nc))), (q2, .inl (g.2.2.1, 6, .inr (.inl (vp_updL (vp_updL oc 0 (bL (ib (nI x) 0))) 1 (bL (ib (nI x) 1)))))), (q3, .inl (g.2.2.1, 6, .inr (.inl rc))), (q4, .inl (g.2.2.1, 3, .inr (.inl tl))), (q5, .inl (g.2.2.1, 64, .inr (.inl ef))), (a, .inr (1, [.ref t, .ref f1, .ref f2, .ref on, .int (nI n), .int (nI N), .int (nI o), .long nm, .int (nI cd), .int (nI wt)])), (t, .inl (g.2.1, 30, .inl ft)), (f1, .inl (g.2.1, 30, .inl fa)), (f2, .inl (g.2.1, 30, .inl fb)), (on, .inl (g.2.1, 6, .inl fo))] := hD
      refine lv_iinc (v := 2) (lv' := [(2, .int 2), (0, .ref z), (1, .int (nI x))]) hx hb dX0_isInCode_19 hl (k := 0) rfl (by decide) (by decide) rfl (fun ls hl => ?_)
      refine lv_goto (tgt := 2) hx hb dX0_isInCode_22 (by decide) ?_
      refine lv_iload_n hx hb dX0_isInCode_2 rfl (lv_at hl 0 rfl) ?_
      refine lv_bipush (v := 6) hx hb dX0_isInCode_3 (by decide) ?_
      refine lv_icmp_ge (tgt := 25) hx hb dX0_isInCode_5 (by decide) (fun c_7 => ?_) (fun c_7 => ?_)
      · have c_7h : (6 : Int32) ≤ (2 : Int32) := c_7
        exact absurd c_7 (by decide)
      · have c_7h : ¬ (6 : Int32) ≤ (2 : Int32) := c_7
        refine lv_aload_n hx hb dX0_isInCode_8 rfl (lv_at hl 1 rfl) ?_
        refine va_get (D := D) (ci := 0) (v := .ref q2) (C := RX0) (T := TX0) (N := 6) hx hb hts hi0 hown hK hP 0 rfl rfl 2 (by decide) (hts (.fieldLink RX0 15 "SelfCheckingCircuit$Analysis" "outputColumns" "[J") (by decide +kernel)) (fun _ h9 => h9) rfl dX0_isInCode_9 ?_
        refine lv_iload_n hx hb dX0_isInCode_12 rfl (lv_at hl 0 rfl) ?_
        refine lv_iload_n hx hb dX0_isInCode_13 rfl (lv_at hl 2 rfl) ?_
        refine lv_iload_n hx hb dX0_isInCode_14 rfl (lv_at hl 0 rfl) ?_
        refine hk_csl (va_runS (As := [.int (nI x), .int 2]) (rest := [.int 2, .ref q2]) ⟨hx, hb, hml, hown, hts⟩ (c0_columnOfBit l D g ti (nI x) 2 (by decide)) (va_cwS 2 hts gX0_isInCode_X0_columnOfBit rfl rfl rfl (by decide +kernel) ⟨Nat.le_of_ble_eq_true rfl, Nat.le_of_ble_eq_true rfl⟩) (hk_roS hE hP hS [] rfl) rfl rfl hl.1 rfl (lv_room (Nat.le_of_ble_eq_true rfl)) dX0_isInCode_15 ⟨Nat.zero_le _, Nat.zero_le _⟩) (fun r_8 hr_9 => ?_)
        subst hr_9
        refine va_last hx hb hK hP hD hS 2 2 rfl rfl (by unfold vp_in; decide) dX0_isInCode_18 (fun H locs hP hD hS => ?_)
        rw [show (2 : Int32).toNatClampNeg = 2 from by decide] at hP hD
        have hP : va_P D vwCl [(z, .inr (0, [.ref a, .ref q1, .ref q2, .ref q3, .ref q4, .ref q5])), (q1, .inl (g.2.2.1, 30, .inr (.inl nc))), (q2, .inl (g.2.2.1, 6, .inr (.inl (vp_updL (vp_updL (vp_updL oc 0 (bL (ib (nI x) 0))) 1 (bL (ib (nI x) 1))) 2 (bL (ib (nI x) 2)))))), (q3, .inl (g.2.2.1, 6, .inr (.inl rc))), (q4, .inl (g.2.2.1, 3, .inr (.inl tl))), (q5, .inl (g.2.2.1, 64, .inr (.inl ef))), (a, .inr (1, [.ref t, .ref f1, .ref f2, .ref on, .int (nI n), .int (nI N), .int (nI o), .long nm, .int (nI cd), .int (nI wt)])), (t, .inl (g.2.1, 30, .inl ft)), (f1, .inl (g.2.1, 30, .inl fa)), (f2, .inl (g.2.1, 30, .inl fb)), (on, .inl (g.2.1, 6, .inl fo))] H := hP
        have hD : va_D A [(z, .inr (0, [.ref a, .ref q1, .ref q2, .ref q3, .ref q4, .ref q5])), (q1, .inl (g.2.2.1, 30, .inr (.inl nc))), (q2, .inl (g.2.2.1, 6, .inr (.inl (vp_updL (vp_updL (vp_updL oc 0 (bL (ib (nI x) 0))) 1 (bL (ib (nI x) 1))) 2 (bL (ib (nI x) 2)))))), (q3, .inl (g.2.2.1, 6, .inr (.inl rc))), (q4, .inl (g.2.2.1, 3, .inr (.inl tl))), (q5, .inl (g.2.2.1, 64, .inr (.inl ef))), (a, .inr (1, [.ref t, .ref f1, .ref f2, .ref on, .int (nI n), .int (nI N), .int (nI o), .long nm, .int (nI cd), .int (nI wt)])), (t, .inl (g.2.1, 30, .inl ft)), (f1, .inl (g.2.1, 30, .inl fa)), (f2, .inl (g.2.1, 30, .inl fb)), (on, .inl (g.2.1, 6, .inl fo))] := hD
        refine lv_iinc (v := 3) (lv' := [(2, .int 3), (0, .ref z), (1, .int (nI x))]) hx hb dX0_isInCode_19 hl (k := 0) rfl (by decide) (by decide) rfl (fun ls hl => ?_)
        refine lv_goto (tgt := 2) hx hb dX0_isInCode_22 (by decide) ?_
        refine lv_iload_n hx hb dX0_isInCode_2 rfl (lv_at hl 0 rfl) ?_
        refine lv_bipush (v := 6) hx hb dX0_isInCode_3 (by decide) ?_
        refine lv_icmp_ge (tgt := 25) hx hb dX0_isInCode_5 (by decide) (fun c_10 => ?_) (fun c_10 => ?_)
        · have c_10h : (6 : Int32) ≤ (3 : Int32) := c_10
          exact absurd c_10 (by decide)
        · have c_10h : ¬ (6 : Int32) ≤ (3 : Int32) := c_10
          refine lv_aload_n hx hb dX0_isInCode_8 rfl (lv_at hl 1 rfl) ?_
          refine va_get (D := D) (ci := 0) (v := .ref q2) (C := RX0) (T := TX0) (N := 6) hx hb hts hi0 hown hK hP 0 rfl rfl 2 (by decide) (hts (.fieldLink RX0 15 "SelfCheckingCircuit$Analysis" "outputColumns" "[J") (by decide +kernel)) (fun _ h9 => h9) rfl dX0_isInCode_9 ?_
          refine lv_iload_n hx hb dX0_isInCode_12 rfl (lv_at hl 0 rfl) ?_
          refine lv_iload_n hx hb dX0_isInCode_13 rfl (lv_at hl 2 rfl) ?_
          refine lv_iload_n hx hb dX0_isInCode_14 rfl (lv_at hl 0 rfl) ?_
          refine hk_csl (va_runS (As := [.int (nI x), .int 3]) (rest := [.int 3, .ref q2]) ⟨hx, hb, hml, hown, hts⟩ (c0_columnOfBit l D g ti (nI x) 3 (by decide)) (va_cwS 2 hts gX0_isInCode_X0_columnOfBit rfl rfl rfl (by decide +kernel) ⟨Nat.le_of_ble_eq_true rfl, Nat.le_of_ble_eq_true rfl⟩) (hk_roS hE hP hS [] rfl) rfl rfl hl.1 rfl (lv_room (Nat.le_of_ble_eq_true rfl)) dX0_isInCode_15 ⟨Nat.zero_le _, Nat.zero_le _⟩) (fun r_11 hr_12 => ?_)
          subst hr_12
          refine va_last hx hb hK hP hD hS 2 2 rfl rfl (by unfold vp_in; decide) dX0_isInCode_18 (fun H locs hP hD hS => ?_)
          rw [show (3 : Int32).toNatClampNeg = 3 from by decide] at hP hD
          have hP : va_P D vwCl [(z, .inr (0, [.ref a, .ref q1, .ref q2, .ref q3, .ref q4, .ref q5])), (q1, .inl (g.2.2.1, 30, .inr (.inl nc))), (q2, .inl (g.2.2.1, 6, .inr (.inl (vp_updL (vp_updL (vp_updL (vp_updL oc 0 (bL (ib (nI x) 0))) 1 (bL (ib (nI x) 1))) 2 (bL (ib (nI x) 2))) 3 (bL (ib (nI x) 3)))))), (q3, .inl (g.2.2.1, 6, .inr (.inl rc))), (q4, .inl (g.2.2.1, 3, .inr (.inl tl))), (q5, .inl (g.2.2.1, 64, .inr (.inl ef))), (a, .inr (1, [.ref t, .ref f1, .ref f2, .ref on, .int (nI n), .int (nI N), .int (nI o), .long nm, .int (nI cd), .int (nI wt)])), (t, .inl (g.2.1, 30, .inl ft)), (f1, .inl (g.2.1, 30, .inl fa)), (f2, .inl (g.2.1, 30, .inl fb)), (on, .inl (g.2.1, 6, .inl fo))] H := hP
          have hD : va_D A [(z, .inr (0, [.ref a, .ref q1, .ref q2, .ref q3, .ref q4, .ref q5])), (q1, .inl (g.2.2.1, 30, .inr (.inl nc))), (q2, .inl (g.2.2.1, 6, .inr (.inl (vp_updL (vp_updL (vp_updL (vp_updL oc 0 (bL (ib (nI x) 0))) 1 (bL (ib (nI x) 1))) 2 (bL (ib (nI x) 2))) 3 (bL (ib (nI x) 3)))))), (q3, .inl (g.2.2.1, 6, .inr (.inl rc))), (q4, .inl (g.2.2.1, 3, .inr (.inl tl))), (q5, .inl (g.2.2.1, 64, .inr (.inl ef))), (a, .inr (1, [.ref t, .ref f1, .ref f2, .ref on, .int (nI n), .int (nI N), .int (nI o), .long nm, .int (nI cd), .int (nI wt)])), (t, .inl (g.2.1, 30, .inl ft)), (f1, .inl (g.2.1, 30, .inl fa)), (f2, .inl (g.2.1, 30, .inl fb)), (on, .inl (g.2.1, 6, .inl fo))] := hD
          refine lv_iinc (v := 4) (lv' := [(2, .int 4), (0, .ref z), (1, .int (nI x))]) hx hb dX0_isInCode_19 hl (k := 0) rfl (by decide) (by decide) rfl (fun ls hl => ?_)
          refine lv_goto (tgt := 2) hx hb dX0_isInCode_22 (by decide) ?_
          refine lv_iload_n hx hb dX0_isInCode_2 rfl (lv_at hl 0 rfl) ?_
          refine lv_bipush (v := 6) hx hb dX0_isInCode_3 (by decide) ?_
          refine lv_icmp_ge (tgt := 25) hx hb dX0_isInCode_5 (by decide) (fun c_13 => ?_) (fun c_13 => ?_)
          · have c_13h : (6 : Int32) ≤ (4 : Int32) := c_13
            exact absurd c_13 (by decide)
          · have c_13h : ¬ (6 : Int32) ≤ (4 : Int32) := c_13
            refine lv_aload_n hx hb dX0_isInCode_8 rfl (lv_at hl 1 rfl) ?_
            refine va_get (D := D) (ci := 0) (v := .ref q2) (C := RX0) (T := TX0) (N := 6) hx hb hts hi0 hown hK hP 0 rfl rfl 2 (by decide) (hts (.fieldLink RX0 15 "SelfCheckingCircuit$Analysis" "outputColumns" "[J") (by decide +kernel)) (fun _ h9 => h9) rfl dX0_isInCode_9 ?_
            refine lv_iload_n hx hb dX0_isInCode_12 rfl (lv_at hl 0 rfl) ?_
            refine lv_iload_n hx hb dX0_isInCode_13 rfl (lv_at hl 2 rfl) ?_
            refine lv_iload_n hx hb dX0_isInCode_14 rfl (lv_at hl 0 rfl) ?_
            refine hk_csl (va_runS (As := [.int (nI x), .int 4]) (rest := [.int 4, .ref q2]) ⟨hx, hb, hml, hown, hts⟩ (c0_columnOfBit l D g ti (nI x) 4 (by decide)) (va_cwS 2 hts gX0_isInCode_X0_columnOfBit rfl rfl rfl (by decide +kernel) ⟨Nat.le_of_ble_eq_true rfl, Nat.le_of_ble_eq_true rfl⟩) (hk_roS hE hP hS [] rfl) rfl rfl hl.1 rfl (lv_room (Nat.le_of_ble_eq_true rfl)) dX0_isInCode_15 ⟨Nat.zero_le _, Nat.zero_le _⟩) (fun r_14 hr_15 => ?_)
            subst hr_15
            refine va_last hx hb hK hP hD hS 2 2 rfl rfl (by unfold vp_in; decide) dX0_isInCode_18 (fun H locs hP hD hS => ?_)
            rw [show (4 : Int32).toNatClampNeg = 4 from by decide] at hP hD
            have hP : va_P D vwCl [(z, .inr (0, [.ref a, .ref q1, .ref q2, .ref q3, .ref q4, .ref q5])), (q1, .inl (g.2.2.1, 30, .inr (.inl nc))), (q2, .inl (g.2.2.1, 6, .inr (.inl (vp_updL (vp_updL (vp_updL (vp_updL (vp_updL oc 0 (bL (ib (nI x) 0))) 1 (bL (ib (nI x) 1))) 2 (bL (ib (nI x) 2))) 3 (bL (ib (nI x) 3))) 4 (bL (ib (nI x) 4)))))), (q3, .inl (g.2.2.1, 6, .inr (.inl rc))), (q4, .inl (g.2.2.1, 3, .inr (.inl tl))), (q5, .inl (g.2.2.1, 64, .inr (.inl ef))), (a, .inr (1, [.ref t, .ref f1, .ref f2, .ref on, .int (nI n), .int (nI N), .int (nI o), .long nm, .int (nI cd), .int (nI wt)])), (t, .inl (g.2.1, 30, .inl ft)), (f1, .inl (g.2.1, 30, .inl fa)), (f2, .inl (g.2.1, 30, .inl fb)), (on, .inl (g.2.1, 6, .inl fo))] H := hP
            have hD : va_D A [(z, .inr (0, [.ref a, .ref q1, .ref q2, .ref q3, .ref q4, .ref q5])), (q1, .inl (g.2.2.1, 30, .inr (.inl nc))), (q2, .inl (g.2.2.1, 6, .inr (.inl (vp_updL (vp_updL (vp_updL (vp_updL (vp_updL oc 0 (bL (ib (nI x) 0))) 1 (bL (ib (nI x) 1))) 2 (bL (ib (nI x) 2))) 3 (bL (ib (nI x) 3))) 4 (bL (ib (nI x) 4)))))), (q3, .inl (g.2.2.1, 6, .inr (.inl rc))), (q4, .inl (g.2.2.1, 3, .inr (.inl tl))), (q5, .inl (g.2.2.1, 64, .inr (.inl ef))), (a, .inr (1, [.ref t, .ref f1, .ref f2, .ref on, .int (nI n), .int (nI N), .int (nI o), .long nm, .int (nI cd), .int (nI wt)])), (t, .inl (g.2.1, 30, .inl ft)), (f1, .inl (g.2.1, 30, .inl fa)), (f2, .inl (g.2.1, 30, .inl fb)), (on, .inl (g.2.1, 6, .inl fo))] := hD
            refine lv_iinc (v := 5) (lv' := [(2, .int 5), (0, .ref z), (1, .int (nI x))]) hx hb dX0_isInCode_19 hl (k := 0) rfl (by decide) (by decide) rfl (fun ls hl => ?_)
            refine lv_goto (tgt := 2) hx hb dX0_isInCode_22 (by decide) ?_
            refine lv_iload_n hx hb dX0_isInCode_2 rfl (lv_at hl 0 rfl) ?_
            refine lv_bipush (v := 6) hx hb dX0_isInCode_3 (by decide) ?_
            refine lv_icmp_ge (tgt := 25) hx hb dX0_isInCode_5 (by decide) (fun c_16 => ?_) (fun c_16 => ?_)
            · have c_16h : (6 : Int32) ≤ (5 : Int32) := c_16
              exact absurd c_16 (by decide)
            · have c_16h : ¬ (6 : Int32) ≤ (5 : Int32) := c_16
              refine lv_aload_n hx hb dX0_isInCode_8 rfl (lv_at hl 1 rfl) ?_
              refine va_get (D := D) (ci := 0) (v := .ref q2) (C := RX0) (T := TX0) (N := 6) hx hb hts hi0 hown hK hP 0 rfl rfl 2 (by decide) (hts (.fieldLink RX0 15 "SelfCheckingCircuit$Analysis" "outputColumns" "[J") (by decide +kernel)) (fun _ h9 => h9) rfl dX0_isInCode_9 ?_
              refine lv_iload_n hx hb dX0_isInCode_12 rfl (lv_at hl 0 rfl) ?_
              refine lv_iload_n hx hb dX0_isInCode_13 rfl (lv_at hl 2 rfl) ?_
              refine lv_iload_n hx hb dX0_isInCode_14 rfl (lv_at hl 0 rfl) ?_
              refine hk_csl (va_runS (As := [.int (nI x), .int 5]) (rest := [.int 5, .ref q2]) ⟨hx, hb, hml, hown, hts⟩ (c0_columnOfBit l D g ti (nI x) 5 (by decide)) (va_cwS 2 hts gX0_isInCode_X0_columnOfBit rfl rfl rfl (by decide +kernel) ⟨Nat.le_of_ble_eq_true rfl, Nat.le_of_ble_eq_true rfl⟩) (hk_roS hE hP hS [] rfl) rfl rfl hl.1 rfl (lv_room (Nat.le_of_ble_eq_true rfl)) dX0_isInCode_15 ⟨Nat.zero_le _, Nat.zero_le _⟩) (fun r_17 hr_18 => ?_)
              subst hr_18
              refine va_last hx hb hK hP hD hS 2 2 rfl rfl (by unfold vp_in; decide) dX0_isInCode_18 (fun H locs hP hD hS => ?_)
              rw [show (5 : Int32).toNatClampNeg = 5 from by decide] at hP hD
              have hP : va_P D vwCl [(z, .inr (0, [.ref a, .ref q1, .ref q2, .ref q3, .ref q4, .ref q5])), (q1, .inl (g.2.2.1, 30, .inr (.inl nc))), (q2, .inl (g.2.2.1, 6, .inr (.inl (vp_updL (vp_updL (vp_updL (vp_updL (vp_updL (vp_updL oc 0 (bL (ib (nI x) 0))) 1 (bL (ib (nI x) 1))) 2 (bL (ib (nI x) 2))) 3 (bL (ib (nI x) 3))) 4 (bL (ib (nI x) 4))) 5 (bL (ib (nI x) 5)))))), (q3, .inl (g.2.2.1, 6, .inr (.inl rc))), (q4, .inl (g.2.2.1, 3, .inr (.inl tl))), (q5, .inl (g.2.2.1, 64, .inr (.inl ef))), (a, .inr (1, [.ref t, .ref f1, .ref f2, .ref on, .int (nI n), .int (nI N), .int (nI o), .long nm, .int (nI cd), .int (nI wt)])), (t, .inl (g.2.1, 30, .inl ft)), (f1, .inl (g.2.1, 30, .inl fa)), (f2, .inl (g.2.1, 30, .inl fb)), (on, .inl (g.2.1, 6, .inl fo))] H := hP
              have hD : va_D A [(z, .inr (0, [.ref a, .ref q1, .ref q2, .ref q3, .ref q4, .ref q5])), (q1, .inl (g.2.2.1, 30, .inr (.inl nc))), (q2, .inl (g.2.2.1, 6, .inr (.inl (vp_updL (vp_updL (vp_updL (vp_updL (vp_updL (vp_updL oc 0 (bL (ib (nI x) 0))) 1 (bL (ib (nI x) 1))) 2 (bL (ib (nI x) 2))) 3 (bL (ib (nI x) 3))) 4 (bL (ib (nI x) 4))) 5 (bL (ib (nI x) 5)))))), (q3, .inl (g.2.2.1, 6, .inr (.inl rc))), (q4, .inl (g.2.2.1, 3, .inr (.inl tl))), (q5, .inl (g.2.2.1, 64, .inr (.inl ef))), (a, .inr (1, [.ref t, .ref f1, .ref f2, .ref on, .int (nI n), .int (nI N), .int (nI o), .long nm, .int (nI cd), .int (nI wt)])), (t, .inl (g.2.1, 30, .inl ft)), (f1, .inl (g.2.1, 30, .inl fa)), (f2, .inl (g.2.1, 30, .inl fb)), (on, .inl (g.2.1, 6, .inl fo))] := hD
              refine lv_iinc (v := 6) (lv' := [(2, .int 6), (0, .ref z), (1, .int (nI x))]) hx hb dX0_isInCode_19 hl (k := 0) rfl (by decide) (by decide) rfl (fun ls hl => ?_)
              refine lv_goto (tgt := 2) hx hb dX0_isInCode_22 (by decide) ?_
              refine lv_iload_n hx hb dX0_isInCode_2 rfl (lv_at hl 0 rfl) ?_
              refine lv_bipush (v := 6) hx hb dX0_isInCode_3 (by decide) ?_
              refine lv_icmp_ge (tgt := 25) hx hb dX0_isInCode_5 (by decide) (fun c_19 => ?_) (fun c_19 => ?_)
              · have c_19h : (6 : Int32) ≤ (6 : Int32) := c_19
                refine lv_aload_n hx hb dX0_isInCode_25 rfl (lv_at hl 1 rfl) ?_
                refine hk_cml (wr := []) (va_runV (As := []) (rest := []) ⟨hx, hb, hml, hown, hts⟩ (c0_inCode l D g ti _ z q1 q2 q3 q4 q5 nc (vp_updL (vp_updL (vp_updL (vp_updL (vp_updL (vp_updL oc 0 (bL (ib (nI x) 0))) 1 (bL (ib (nI x) 1))) 2 (bL (ib (nI x) 2))) 3 (bL (ib (nI x) 3))) 4 (bL (ib (nI x) 4))) 5 (bL (ib (nI x) 5))) rc tl ef a t f1 f2 on ft fa fb fo n N o nm cd wt hC.2.2.2.2.1 hC.2.2.2.2.2.2 hC.2.2.2.2.2.1) (cwV 0 hts gX0_isInCode_X0_inCode rfl rfl rfl (by decide +kernel) ⟨Nat.le_of_ble_eq_true rfl, Nat.le_of_ble_eq_true rfl⟩) (hk_inV hE hP hD hS hA 0 rfl rfl [0, 1, 2, 3, 4, 5, 6, 7, 8, 9, 10] (by decide) rfl rfl) rfl rfl hl.1 rfl (lv_room (Nat.le_of_ble_eq_true rfl)) dX0_isInCode_26 ⟨Nat.zero_le _, Nat.zero_le _⟩) hP hD hS hA [0, 1, 2, 3, 4, 5, 6, 7, 8, 9, 10] [] rfl rfl (by decide) (by decide) (fun r_20 tg H locs hr_21 hP hD hS => ?_)
                try dsimp only at hr_21
                have hP : va_P D vwCl [(z, .inr (0, [.ref a, .ref q1, .ref q2, .ref q3, .ref q4, .ref q5])), (q1, .inl (g.2.2.1, 30, .inr (.inl nc))), (q2, .inl (g.2.2.1, 6, .inr (.inl (vp_updL (vp_updL (vp_updL (vp_updL (vp_updL (vp_updL oc 0 (bL (ib (nI x) 0))) 1 (bL (ib (nI x) 1))) 2 (bL (ib (nI x) 2))) 3 (bL (ib (nI x) 3))) 4 (bL (ib (nI x) 4))) 5 (bL (ib (nI x) 5)))))), (q3, .inl (g.2.2.1, 6, .inr (.inl rc))), (q4, .inl (g.2.2.1, 3, .inr (.inl tg))), (q5, .inl (g.2.2.1, 64, .inr (.inl ef))), (a, .inr (1, [.ref t, .ref f1, .ref f2, .ref on, .int (nI n), .int (nI N), .int (nI o), .long nm, .int (nI cd), .int (nI wt)])), (t, .inl (g.2.1, 30, .inl ft)), (f1, .inl (g.2.1, 30, .inl fa)), (f2, .inl (g.2.1, 30, .inl fb)), (on, .inl (g.2.1, 6, .inl fo))] H := hP
                have hD : va_D A [(z, .inr (0, [.ref a, .ref q1, .ref q2, .ref q3, .ref q4, .ref q5])), (q1, .inl (g.2.2.1, 30, .inr (.inl nc))), (q2, .inl (g.2.2.1, 6, .inr (.inl (vp_updL (vp_updL (vp_updL (vp_updL (vp_updL (vp_updL oc 0 (bL (ib (nI x) 0))) 1 (bL (ib (nI x) 1))) 2 (bL (ib (nI x) 2))) 3 (bL (ib (nI x) 3))) 4 (bL (ib (nI x) 4))) 5 (bL (ib (nI x) 5)))))), (q3, .inl (g.2.2.1, 6, .inr (.inl rc))), (q4, .inl (g.2.2.1, 3, .inr (.inl tg))), (q5, .inl (g.2.2.1, 64, .inr (.inl ef))), (a, .inr (1, [.ref t, .ref f1, .ref f2, .ref on, .int (nI n), .int (nI N), .int (nI o), .long nm, .int (nI cd), .int (nI wt)])), (t, .inl (g.2.1, 30, .inl ft)), (f1, .inl (g.2.1, 30, .inl fa)), (f2, .inl (g.2.1, 30, .inl fb)), (on, .inl (g.2.1, 6, .inl fo))] := hD
                refine lv_lconst (v := 0) hx hb dX0_isInCode_29 (by decide) ?_
                refine W.lcmp hx hb dX0_isInCode_30 ?_
                refine lv_if_eq (tgt := 38) hx hb dX0_isInCode_31 (by decide) (fun c_22 => ?_) (fun c_22 => ?_)
                · have c_22h : (lg_cmp r_20 (0 : Int64)) = (0 : Int32) := c_22
                  refine lv_iconst (v := 0) hx hb dX0_isInCode_38 (by decide) ?_
                  have hP9 := hP.sub (ws' := [(z, .inr (0, [.ref a, .ref q1, .ref q2, .ref q3, .ref q4, .ref q5])), (q1, .inl (g.2.2.1, 30, .inr (.inl nc))), (q2, .inl (g.2.2.1, 6, .inr (.inl (vp_updL (vp_updL (vp_updL (vp_updL (vp_updL (vp_updL oc 0 (bL (ib (nI x) 0))) 1 (bL (ib (nI x) 1))) 2 (bL (ib (nI x) 2))) 3 (bL (ib (nI x) 3))) 4 (bL (ib (nI x) 4))) 5 (bL (ib (nI x) 5)))))), (q3, .inl (g.2.2.1, 6, .inr (.inl rc))), (q4, .inl (g.2.2.1, 3, .inr (.inl tg))), (q5, .inl (g.2.2.1, 64, .inr (.inl ef))), (a, .inr (1, [.ref t, .ref f1, .ref f2, .ref on, .int (nI n), .int (nI N), .int (nI o), .long nm, .int (nI cd), .int (nI wt)])), (t, .inl (g.2.1, 30, .inl ft)), (f1, .inl (g.2.1, 30, .inl fa)), (f2, .inl (g.2.1, 30, .inl fb)), (on, .inl (g.2.1, 6, .inl fo))]) [0, 1, 2, 3, 4, 5, 6, 7, 8, 9, 10] rfl
                  have hD9 := hD.sub (ws' := [(z, .inr (0, [.ref a, .ref q1, .ref q2, .ref q3, .ref q4, .ref q5])), (q1, .inl (g.2.2.1, 30, .inr (.inl nc))), (q2, .inl (g.2.2.1, 6, .inr (.inl (vp_updL (vp_updL (vp_updL (vp_updL (vp_updL (vp_updL oc 0 (bL (ib (nI x) 0))) 1 (bL (ib (nI x) 1))) 2 (bL (ib (nI x) 2))) 3 (bL (ib (nI x) 3))) 4 (bL (ib (nI x) 4))) 5 (bL (ib (nI x) 5)))))), (q3, .inl (g.2.2.1, 6, .inr (.inl rc))), (q4, .inl (g.2.2.1, 3, .inr (.inl tg))), (q5, .inl (g.2.2.1, 64, .inr (.inl ef))), (a, .inr (1, [.ref t, .ref f1, .ref f2, .ref on, .int (nI n), .int (nI N), .int (nI o), .long nm, .int (nI cd), .int (nI wt)])), (t, .inl (g.2.1, 30, .inl ft)), (f1, .inl (g.2.1, 30, .inl fa)), (f2, .inl (g.2.1, 30, .inl fb)), (on, .inl (g.2.1, 6, .inl fo))]) [0, 1, 2, 3, 4, 5, 6, 7, 8, 9, 10] (by decide) rfl
                  exact W.zret (v := 0) hx hb hr (hk_z0) (fun tt ht hW => ⟨⟨_, ((vp_updL (vp_updL (vp_updL (vp_updL (vp_updL (vp_updL oc 0 (bL (ib (nI x) 0))) 1 (bL (ib (nI x) 1))) 2 (bL (ib (nI x) 2))) 3 (bL (ib (nI x) 3))) 4 (bL (ib (nI x) 4))) 5 (bL (ib (nI x) 5))), tg), rfl, by rw [(hk_iic hC.2.2.2.2.1 hr_21 (hk_6 (P := fun k => (vp_updL (vp_updL (vp_updL (vp_updL (vp_updL (vp_updL oc 0 (bL (ib (nI x) 0))) 1 (bL (ib (nI x) 1))) 2 (bL (ib (nI x) 2))) 3 (bL (ib (nI x) 3))) 4 (bL (ib (nI x) 4))) 5 (bL (ib (nI x) 5))) k = bL (ib (nI x) k)) rfl rfl rfl rfl rfl rfl)).2 ((lg_0 _ _).mp c_22)]; rfl, by rw [ht]; exact hP9, hD9⟩, hS.F ht⟩) hS.2.2 dX0_isInCode_39
                · have c_22h : ¬ (lg_cmp r_20 (0 : Int64)) = (0 : Int32) := c_22
                  refine lv_iconst (v := 1) hx hb dX0_isInCode_34 (by decide) ?_
                  refine lv_goto (tgt := 39) hx hb dX0_isInCode_35 (by decide) ?_
                  have hP9 := hP.sub (ws' := [(z, .inr (0, [.ref a, .ref q1, .ref q2, .ref q3, .ref q4, .ref q5])), (q1, .inl (g.2.2.1, 30, .inr (.inl nc))), (q2, .inl (g.2.2.1, 6, .inr (.inl (vp_updL (vp_updL (vp_updL (vp_updL (vp_updL (vp_updL oc 0 (bL (ib (nI x) 0))) 1 (bL (ib (nI x) 1))) 2 (bL (ib (nI x) 2))) 3 (bL (ib (nI x) 3))) 4 (bL (ib (nI x) 4))) 5 (bL (ib (nI x) 5)))))), (q3, .inl (g.2.2.1, 6, .inr (.inl rc))), (q4, .inl (g.2.2.1, 3, .inr (.inl tg))), (q5, .inl (g.2.2.1, 64, .inr (.inl ef))), (a, .inr (1, [.ref t, .ref f1, .ref f2, .ref on, .int (nI n), .int (nI N), .int (nI o), .long nm, .int (nI cd), .int (nI wt)])), (t, .inl (g.2.1, 30, .inl ft)), (f1, .inl (g.2.1, 30, .inl fa)), (f2, .inl (g.2.1, 30, .inl fb)), (on, .inl (g.2.1, 6, .inl fo))]) [0, 1, 2, 3, 4, 5, 6, 7, 8, 9, 10] rfl
                  have hD9 := hD.sub (ws' := [(z, .inr (0, [.ref a, .ref q1, .ref q2, .ref q3, .ref q4, .ref q5])), (q1, .inl (g.2.2.1, 30, .inr (.inl nc))), (q2, .inl (g.2.2.1, 6, .inr (.inl (vp_updL (vp_updL (vp_updL (vp_updL (vp_updL (vp_updL oc 0 (bL (ib (nI x) 0))) 1 (bL (ib (nI x) 1))) 2 (bL (ib (nI x) 2))) 3 (bL (ib (nI x) 3))) 4 (bL (ib (nI x) 4))) 5 (bL (ib (nI x) 5)))))), (q3, .inl (g.2.2.1, 6, .inr (.inl rc))), (q4, .inl (g.2.2.1, 3, .inr (.inl tg))), (q5, .inl (g.2.2.1, 64, .inr (.inl ef))), (a, .inr (1, [.ref t, .ref f1, .ref f2, .ref on, .int (nI n), .int (nI N), .int (nI o), .long nm, .int (nI cd), .int (nI wt)])), (t, .inl (g.2.1, 30, .inl ft)), (f1, .inl (g.2.1, 30, .inl fa)), (f2, .inl (g.2.1, 30, .inl fb)), (on, .inl (g.2.1, 6, .inl fo))]) [0, 1, 2, 3, 4, 5, 6, 7, 8, 9, 10] (by decide) rfl
                  exact W.zret (v := 1) hx hb hr (hk_z1) (fun tt ht hW => ⟨⟨_, ((vp_updL (vp_updL (vp_updL (vp_updL (vp_updL (vp_updL oc 0 (bL (ib (nI x) 0))) 1 (bL (ib (nI x) 1))) 2 (bL (ib (nI x) 2))) 3 (bL (ib (nI x) 3))) 4 (bL (ib (nI x) 4))) 5 (bL (ib (nI x) 5))), tg), rfl, by rw [(hk_iic hC.2.2.2.2.1 hr_21 (hk_6 (P := fun k => (vp_updL (vp_updL (vp_updL (vp_updL (vp_updL (vp_updL oc 0 (bL (ib (nI x) 0))) 1 (bL (ib (nI x) 1))) 2 (bL (ib (nI x) 2))) 3 (bL (ib (nI x) 3))) 4 (bL (ib (nI x) 4))) 5 (bL (ib (nI x) 5))) k = bL (ib (nI x) k)) rfl rfl rfl rfl rfl rfl)).1 (fun q => c_22 ((lg_0 _ _).mpr q))]; rfl, by rw [ht]; exact hP9, hD9⟩, hS.F ht⟩) hS.2.2 dX0_isInCode_39
              · have c_19h : ¬ (6 : Int32) ≤ (6 : Int32) := c_19
                exact absurd c_19 (by decide)
set_option maxHeartbeats 4000000 in
set_option maxRecDepth 100000 in
theorem c0_normalOutputs (l : Launch) (D : va_G) (g : hk_G) (ti : Nat) (sz : Nat) (z : Nat) (q1 : Nat) (q2 : Nat) (q3 : Nat) (q4 : Nat) (q5 : Nat) (nc : Nat → Int64) (oc : Nat → Int64) (rc : Nat → Int64) (tl : Nat → Int64) (ef : Nat → Int64) (a : Nat) (t : Nat) (f1 : Nat) (f2 : Nat) (on : Nat) (ft : Nat → Int32) (fa : Nat → Int32) (fb : Nat → Int32) (fo : Nat → Int32) (n : Nat) (N : Nat) (o : Nat) (nm : Int64) (cd : Nat) (wt : Nat) (ty : Nat → Nat) (pa : Nat → Nat) (pb : Nat → Nat) (vo : Nat → Nat) (hC : Cok n N o cd wt) (hG : Gok n N ty pa pb ft fa fb) (hO : Ook N o vo fo) : Met l yX0_normalOutputs wsX0_normalOutputs ({ frames := 3, cells := 0, slots := 0, locals := 69 }) (va_Pc [.ref z] (hk_In D g ti [(z, .inr (0, [.ref a, .ref q1, .ref q2, .ref q3, .ref q4, .ref q5])), (q1, .inl (g.2.2.1, 30, .inr (.inl nc))), (q2, .inl (g.2.2.1, 6, .inr (.inl oc))), (q3, .inl (g.2.2.1, 6, .inr (.inl rc))), (q4, .inl (g.2.2.1, 3, .inr (.inl tl))), (q5, .inl (g.2.2.1, 64, .inr (.inl ef))), (a, .inr (1, [.ref t, .ref f1, .ref f2, .ref on, .int (nI n), .int (nI N), .int (nI o), .long nm, .int (nI cd), .int (nI wt)])), (t, .inl (g.2.1, 30, .inl ft)), (f1, .inl (g.2.1, 30, .inl fa)), (f2, .inl (g.2.1, 30, .inl fb)), (on, .inl (g.2.1, 6, .inl fo))] sz)) (va_Ql (S := (Nat → Int64) × (Nat → Int64)) (fun r _ => ∀ y, y < 64 → lb r y = nO nm (fun w => wd (oB n ty pa pb vo (-1) w) o) y 64) (fun u => hk_Out D (va_A [(z, .inr (0, [.ref a, .ref q1, .ref q2, .ref q3, .ref q4, .ref q5])), (q1, .inl (g.2.2.1, 30, .inr (.inl nc))), (q2, .inl (g.2.2.1, 6, .inr (.inl oc))), (q3, .inl (g.2.2.1, 6, .inr (.inl rc))), (q4, .inl (g.2.2.1, 3, .inr (.inl tl))), (q5, .inl (g.2.2.1, 64, .inr (.inl ef))), (a, .inr (1, [.ref t, .ref f1, .ref f2, .ref on, .int (nI n), .int (nI N), .int (nI o), .long nm, .int (nI cd), .int (nI wt)])), (t, .inl (g.2.1, 30, .inl ft)), (f1, .inl (g.2.1, 30, .inl fa)), (f2, .inl (g.2.1, 30, .inl fb)), (on, .inl (g.2.1, 6, .inl fo))] sz) (match u with | (g1, g2) => [(z, .inr (0, [.ref a, .ref q1, .ref q2, .ref q3, .ref q4, .ref q5])), (q1, .inl (g.2.2.1, 30, .inr (.inl g1))), (q2, .inl (g.2.2.1, 6, .inr (.inl g2))), (q3, .inl (g.2.2.1, 6, .inr (.inl rc))), (q4, .inl (g.2.2.1, 3, .inr (.inl tl))), (q5, .inl (g.2.2.1, 64, .inr (.inl ef))), (a, .inr (1, [.ref t, .ref f1, .ref f2, .ref on, .int (nI n), .int (nI N), .int (nI o), .long nm, .int (nI cd), .int (nI wt)])), (t, .inl (g.2.1, 30, .inl ft)), (f1, .inl (g.2.1, 30, .inl fa)), (f2, .inl (g.2.1, 30, .inl fb)), (on, .inl (g.2.1, 6, .inl fo))])) (va_A [(z, .inr (0, [.ref a, .ref q1, .ref q2, .ref q3, .ref q4, .ref q5])), (q1, .inl (g.2.2.1, 30, .inr (.inl nc))), (q2, .inl (g.2.2.1, 6, .inr (.inl oc))), (q3, .inl (g.2.2.1, 6, .inr (.inl rc))), (q4, .inl (g.2.2.1, 3, .inr (.inl tl))), (q5, .inl (g.2.2.1, 64, .inr (.inl ef))), (a, .inr (1, [.ref t, .ref f1, .ref f2, .ref on, .int (nI n), .int (nI N), .int (nI o), .long nm, .int (nI cd), .int (nI wt)])), (t, .inl (g.2.1, 30, .inl ft)), (f1, .inl (g.2.1, 30, .inl fa)), (f2, .inl (g.2.1, 30, .inl fb)), (on, .inl (g.2.1, 6, .inl fo))] sz)) 0 0 (va_A [(z, .inr (0, [.ref a, .ref q1, .ref q2, .ref q3, .ref q4, .ref q5])), (q1, .inl (g.2.2.1, 30, .inr (.inl nc))), (q2, .inl (g.2.2.1, 6, .inr (.inl oc))), (q3, .inl (g.2.2.1, 6, .inr (.inl rc))), (q4, .inl (g.2.2.1, 3, .inr (.inl tl))), (q5, .inl (g.2.2.1, 64, .inr (.inl ef))), (a, .inr (1, [.ref t, .ref f1, .ref f2, .ref on, .int (nI n), .int (nI N), .int (nI o), .long nm, .int (nI cd), .int (nI wt)])), (t, .inl (g.2.1, 30, .inl ft)), (f1, .inl (g.2.1, 30, .inl fa)), (f2, .inl (g.2.1, 30, .inl fb)), (on, .inl (g.2.1, 6, .inl fo))] sz) := by
  refine Met.ofW (cc := cX0_normalOutputs) (maxL := 4) (ret := (some .long)) (by decide) rfl ?_
  intro p e s m args below meth c s₁ Bd hml hv
  obtain ⟨rfl, hsz, hP, hD0, hE⟩ := hv
  have hx := Bd.exec
  have hb := Bd.bytes
  have hr := Bd.returns
  have hts := atoms_spec (ws := wsX0_normalOutputs) Bd.pre
  have hown : s.vm.findClass RX0 = some m.cls := findClass_of_methodNamed Bd.named
  have hlocks := Bd.notSynchronized
  have hK := hE.1
  have hi0 : ∀ w ∈ wsX00, w ∈ wsX0_normalOutputs := fun w h => List.mem_cons_of_mem _ (List.mem_append_left _ (List.mem_append_right _ h))
  have hi1 : ∀ w ∈ wsX10, w ∈ wsX0_normalOutputs := fun w h => List.mem_cons_of_mem _ (List.mem_append_right _ h)
  subst hsz
  have hD := hD0.self (sz := s.heap.size)
  generalize hAe : va_A [(z, .inr (0, [.ref a, .ref q1, .ref q2, .ref q3, .ref q4, .ref q5])), (q1, .inl (g.2.2.1, 30, .inr (.inl nc))), (q2, .inl (g.2.2.1, 6, .inr (.inl oc))), (q3, .inl (g.2.2.1, 6, .inr (.inl rc))), (q4, .inl (g.2.2.1, 3, .inr (.inl tl))), (q5, .inl (g.2.2.1, 64, .inr (.inl ef))), (a, .inr (1, [.ref t, .ref f1, .ref f2, .ref on, .int (nI n), .int (nI N), .int (nI o), .long nm, .int (nI cd), .int (nI wt)])), (t, .inl (g.2.1, 30, .inl ft)), (f1, .inl (g.2.1, 30, .inl fa)), (f2, .inl (g.2.1, 30, .inl fb)), (on, .inl (g.2.1, 6, .inl fo))] s.heap.size = A at hD hE ⊢
  have hA : ∀ q : Nat, s.heap.size ≤ q → A q := fun q h => by rw [← hAe]; exact Or.inr h
  have hS : va_S A s.heap s.heap [] := va_S.rf
  have hl := lv_entry ([.ref z]) (n := 4) (Nat.le_of_ble_eq_true rfl)
  rw [lg_entry_eq]
  generalize (lg_sl ([.ref z]) ++ List.replicate (4 - (lg_sl ([.ref z])).length) Slot.unset).toArray = ls at hl ⊢
  have hl : lv_has ls 4 [(0, .ref z)] := hl
  refine lv_aload_n hx hb dX0_normalOutputs_0 rfl (lv_at hl 0 rfl) ?_
  refine lv_iconst (v := (-1)) hx hb dX0_normalOutputs_1 (by decide) ?_
  refine hk_cmv (wr := []) (va_runV (As := [.int (-1)]) (rest := []) ⟨hx, hb, hml, hown, hts⟩ (c0_simulate l D g ti _ z q1 q2 q3 q4 q5 nc oc rc tl ef a t f1 f2 on ft fa fb fo n N o nm cd wt ty pa pb vo (-1) hC hG hO) (cwV 1 hts gX0_normalOutputs_X0_simulate rfl rfl rfl (by decide +kernel) ⟨Nat.le_of_ble_eq_true rfl, Nat.le_of_ble_eq_true rfl⟩) (hk_inV hE hP hD hS hA 0 rfl rfl [0, 1, 2, 3, 4, 5, 6, 7, 8, 9, 10] (by decide) rfl rfl) rfl rfl hl.1 rfl (lv_room (Nat.le_of_ble_eq_true rfl)) dX0_normalOutputs_2 ⟨Nat.zero_le _, Nat.zero_le _⟩) hP hD hS hA [0, 1, 2, 3, 4, 5, 6, 7, 8, 9, 10] [] rfl rfl (by decide) (by decide) (fun sm H locs hr_2 hP hD hS => ?_)
  obtain ⟨sm1, sm2⟩ := sm
  try dsimp only at hr_2
  have hP : va_P D vwCl [(z, .inr (0, [.ref a, .ref q1, .ref q2, .ref q3, .ref q4, .ref q5])), (q1, .inl (g.2.2.1, 30, .inr (.inl sm1))), (q2, .inl (g.2.2.1, 6, .inr (.inl sm2))), (q3, .inl (g.2.2.1, 6, .inr (.inl rc))), (q4, .inl (g.2.2.1, 3, .inr (.inl tl))), (q5, .inl (g.2.2.1, 64, .inr (.inl ef))), (a, .inr (1, [.ref t, .ref f1, .ref f2, .ref on, .int (nI n), .int (nI N), .int (nI o), .long nm, .int (nI cd), .int (nI wt)])), (t, .inl (g.2.1, 30, .inl ft)), (f1, .inl (g.2.1, 30, .inl fa)), (f2, .inl (g.2.1, 30, .inl fb)), (on, .inl (g.2.1, 6, .inl fo))] H := hP
  have hD : va_D A [(z, .inr (0, [.ref a, .ref q1, .ref q2, .ref q3, .ref q4, .ref q5])), (q1, .inl (g.2.2.1, 30, .inr (.inl sm1))), (q2, .inl (g.2.2.1, 6, .inr (.inl sm2))), (q3, .inl (g.2.2.1, 6, .inr (.inl rc))), (q4, .inl (g.2.2.1, 3, .inr (.inl tl))), (q5, .inl (g.2.2.1, 64, .inr (.inl ef))), (a, .inr (1, [.ref t, .ref f1, .ref f2, .ref on, .int (nI n), .int (nI N), .int (nI o), .long nm, .int (nI cd), .int (nI wt)])), (t, .inl (g.2.1, 30, .inl ft)), (f1, .inl (g.2.1, 30, .inl fa)), (f2, .inl (g.2.1, 30, .inl fb)), (on, .inl (g.2.1, 6, .inl fo))] := hD
  refine lv_lconst (v := 0) hx hb dX0_normalOutputs_5 (by decide) ?_
  refine lv_lstore_n (lv' := [(1, .long 0), (0, .ref z)]) hx hb dX0_normalOutputs_6 rfl hl (by decide) rfl (fun ls hl => ?_)
  refine lv_iconst (v := 0) hx hb dX0_normalOutputs_7 (by decide) ?_
  refine lv_istore_n (lv' := [(3, .int 0), (1, .long 0), (0, .ref z)]) hx hb dX0_normalOutputs_8 rfl hl (by decide) rfl (fun ls hl => ?_)
  have loop9 : ∀ (fuel : Nat) (i : Nat) (x : Int64), (64 - i) < fuel → (i ≤ 64) → (∀ y, y < 64 → lb x y = nO nm (fun w => wd (oB n ty pa pb vo (-1) w) o) y i) → ∀ (H : Heap) (locs : List Loc), va_P D vwCl [(z, .inr (0, [.ref a, .ref q1, .ref q2, .ref q3, .ref q4, .ref q5])), (q1, .inl (g.2.2.1, 30, .inr (.inl sm1))), (q2, .inl (g.2.2.1, 6, .inr (.inl sm2))), (q3, .inl (g.2.2.1, 6, .inr (.inl rc))), (q4, .inl (g.2.2.1, 3, .inr (.inl tl))), (q5, .inl (g.2.2.1, 64, .inr (.inl ef))), (a, .inr (1, [.ref t, .ref f1, .ref f2, .ref on, .int (nI n), .int (nI N), .int (nI o), .long nm, .int (nI cd), .int (nI wt)])), (t, .inl (g.2.1, 30, .inl ft)), (f1, .inl (g.2.1, 30, .inl fa)), (f2, .inl (g.2.1, 30, .inl fb)), (on, .inl (g.2.1, 6, .inl fo))] H → va_D A [(z, .inr (0, [.ref a, .ref q1, .ref q2, .ref q3, .ref q4, .ref q5])), (q1, .inl (g.2.2.1, 30, .inr (.inl sm1))), (q2, .inl (g.2.2.1, 6, .inr (.inl sm2))), (q3, .inl (g.2.2.1, 6, .inr (.inl rc))), (q4, .inl (g.2.2.1, 3, .inr (.inl tl))), (q5, .inl (g.2.2.1, 64, .inr (.inl ef))), (a, .inr (1, [.ref t, .ref f1, .ref f2, .ref on, .int (nI n), .int (nI N), .int (nI o), .long nm, .int (nI cd), .int (nI wt)])), (t, .inl (g.2.1, 30, .inl ft)), (f1, .inl (g.2.1, 30, .inl fa)), (f2, .inl (g.2.1, 30, .inl fb)), (on, .inl (g.2.1, 6, .inl fo))] → va_S A s.heap H locs → ∀ ls : Array Slot, lv_has ls 4 [(3, .int (nI i)), (1, .long x), (0, .ref z)] → W p l e (headSpec wsX0_normalOutputs ({ frames := 3, cells := 0, slots := 0, locals := 69 })).room s m ([.ref z] : List Value).toArray below meth c H locs 0 0 (MQ below (va_Ql (S := (Nat → Int64) × (Nat → Int64)) (fun r _ => ∀ y, y < 64 → lb r y = nO nm (fun w => wd (oB n ty pa pb vo (-1) w) o) y 64) (fun u => hk_Out D A (match u with | (g1, g2) => [(z, .inr (0, [.ref a, .ref q1, .ref q2, .ref q3, .ref q4, .ref q5])), (q1, .inl (g.2.2.1, 30, .inr (.inl g1))), (q2, .inl (g.2.2.1, 6, .inr (.inl g2))), (q3, .inl (g.2.2.1, 6, .inr (.inl rc))), (q4, .inl (g.2.2.1, 3, .inr (.inl tl))), (q5, .inl (g.2.2.1, 64, .inr (.inl ef))), (a, .inr (1, [.ref t, .ref f1, .ref f2, .ref on, .int (nI n), .int (nI N), .int (nI o), .long nm, .int (nI cd), .int (nI wt)])), (t, .inl (g.2.1, 30, .inl ft)), (f1, .inl (g.2.1, 30, .inl fa)), (f2, .inl (g.2.1, 30, .inl fb)), (on, .inl (g.2.1, 6, .inl fo))])) A) ([.ref z] : List Value).toArray s 0 0 A) (F0 m 9 ls []) := by
    intro fuel
    induction fuel with
    | zero => intro i x hm; exact absurd hm (Nat.not_lt_zero _)
    | succ fuel ih_9 =>
      intro i x hm_9 hi hx2 H locs hP hD hS ls hl
      refine lv_iload_n hx hb dX0_normalOutputs_9 rfl (lv_at hl 0 rfl) ?_
      refine lv_bipush (v := 64) hx hb dX0_normalOutputs_10 (by decide) ?_
      refine lv_icmp_ge (tgt := 46) hx hb dX0_normalOutputs_12 (by decide) (fun c_3 => ?_) (fun c_3 => ?_)
      · have c_3h : (64 : Int32) ≤ nI i := c_3
        refine lv_lload_n hx hb dX0_normalOutputs_46 rfl (lv_at hl 1 rfl) ?_
        have hP9 := hP.sub (ws' := [(z, .inr (0, [.ref a, .ref q1, .ref q2, .ref q3, .ref q4, .ref q5])), (q1, .inl (g.2.2.1, 30, .inr (.inl sm1))), (q2, .inl (g.2.2.1, 6, .inr (.inl sm2))), (q3, .inl (g.2.2.1, 6, .inr (.inl rc))), (q4, .inl (g.2.2.1, 3, .inr (.inl tl))), (q5, .inl (g.2.2.1, 64, .inr (.inl ef))), (a, .inr (1, [.ref t, .ref f1, .ref f2, .ref on, .int (nI n), .int (nI N), .int (nI o), .long nm, .int (nI cd), .int (nI wt)])), (t, .inl (g.2.1, 30, .inl ft)), (f1, .inl (g.2.1, 30, .inl fa)), (f2, .inl (g.2.1, 30, .inl fb)), (on, .inl (g.2.1, 6, .inl fo))]) [0, 1, 2, 3, 4, 5, 6, 7, 8, 9, 10] rfl
        have hD9 := hD.sub (ws' := [(z, .inr (0, [.ref a, .ref q1, .ref q2, .ref q3, .ref q4, .ref q5])), (q1, .inl (g.2.2.1, 30, .inr (.inl sm1))), (q2, .inl (g.2.2.1, 6, .inr (.inl sm2))), (q3, .inl (g.2.2.1, 6, .inr (.inl rc))), (q4, .inl (g.2.2.1, 3, .inr (.inl tl))), (q5, .inl (g.2.2.1, 64, .inr (.inl ef))), (a, .inr (1, [.ref t, .ref f1, .ref f2, .ref on, .int (nI n), .int (nI N), .int (nI o), .long nm, .int (nI cd), .int (nI wt)])), (t, .inl (g.2.1, 30, .inl ft)), (f1, .inl (g.2.1, 30, .inl fa)), (f2, .inl (g.2.1, 30, .inl fb)), (on, .inl (g.2.1, 6, .inl fo))]) [0, 1, 2, 3, 4, 5, 6, 7, 8, 9, 10] (by decide) rfl
        exact W.lret (v := x) hx hb hr (fun tt ht hW => ⟨⟨_, (sm1, sm2), rfl, fun y hy => by rw [hx2 y hy, show i = 64 by have := hk_ge 64 c_3; omega], by rw [ht]; exact hP9, hD9⟩, hS.F ht⟩) hS.2.2 dX0_normalOutputs_47
      · have c_3h : ¬ (64 : Int32) ≤ nI i := c_3
        refine lv_aload_n hx hb dX0_normalOutputs_15 rfl (lv_at hl 2 rfl) ?_
        refine va_get (D := D) (ci := 0) (v := .ref a) (C := RX0) (T := TX0) (N := 6) hx hb hts hi0 hown hK hP 0 rfl rfl 0 (by decide) (hts (.fieldLink RX0 27 "SelfCheckingCircuit$Analysis" "circuit" "LSelfCheckingCircuit$Circuit;") (by decide +kernel)) (fun _ h9 => h9) rfl dX0_normalOutputs_16 ?_
        refine va_getN (D := D) (ci := 1) (v := .long nm) (C := RX1) (T := TX1) (N := 10) hx hb hts hi1 hown hK hP 6 rfl rfl 7 (by decide) (nf_X0_52 hE.2.1) (fun _ h9 => h9) rfl dX0_normalOutputs_19 ?_
        refine lv_iload_n hx hb dX0_normalOutputs_22 rfl (lv_at hl 0 rfl) ?_
        refine hk_csi (va_runSN (As := [.long nm, .int (nI i)]) (rest := []) ⟨hx, hb, hml, hown, hts⟩ (c5_bit l D g ti nm i (hk_nge 64 c_3)) ⟨va_cnB 2 hts gX0_normalOutputs_X5_bit_n68 rfl rfl rfl (nm_X0_68 hE.2.1) (hts (.initialized RX5) (by decide +kernel)) (by decide +kernel) ⟨Nat.le_of_ble_eq_true rfl, Nat.le_of_ble_eq_true rfl⟩, hts (.static yX5_bit) (by decide +kernel), trivial⟩ (hk_roS hE hP hS [] rfl) rfl rfl hl.1 rfl (lv_room (Nat.le_of_ble_eq_true rfl)) dX0_normalOutputs_23 ⟨Nat.zero_le _, Nat.zero_le _⟩) (fun r_4 hr_5 => ?_)
        subst hr_5
        refine lv_iconst (v := 1) hx hb dX0_normalOutputs_26 (by decide) ?_
        refine lv_icmp_ne (tgt := 40) hx hb dX0_normalOutputs_27 (by decide) (fun c_6 => ?_) (fun c_6 => ?_)
        · have c_6h : ¬ (bI (lb nm i)) = (1 : Int32) := c_6
          refine lv_iinc (v := (nI (i + 1))) (lv' := [(3, .int (nI (i + 1))), (1, .long x), (0, .ref z)]) hx hb dX0_normalOutputs_40 hl (k := 0) rfl (nI_1 i) (by decide) rfl (fun ls hl => ?_)
          refine lv_goto (tgt := 9) hx hb dX0_normalOutputs_43 (by decide) ?_
          have hlt : i < 64 := hk_nge 64 c_3
          exact ih_9 (i + 1) x (by omega) (by omega) (fun y hy => by rw [hx2 y hy]; show _ = (nO nm (fun w => wd (oB n ty pa pb vo (-1) w) o) y i || (lb nm i && _)); rw [bI_n1 c_6, Bool.false_and, Bool.or_false]) _ _ hP hD hS _ (lv_sub hl [0, 1, 2] rfl)
        · have c_6h : (bI (lb nm i)) = (1 : Int32) := c_6
          refine lv_lload_n hx hb dX0_normalOutputs_30 rfl (lv_at hl 1 rfl) ?_
          refine lv_lconst (v := 1) hx hb dX0_normalOutputs_31 (by decide) ?_
          refine lv_aload_n hx hb dX0_normalOutputs_32 rfl (lv_at hl 2 rfl) ?_
          refine lv_iload_n hx hb dX0_normalOutputs_33 rfl (lv_at hl 0 rfl) ?_
          refine hk_csi (va_runV (As := [.int (nI i)]) (rest := [.long 1, .long x]) ⟨hx, hb, hml, hown, hts⟩ (c0_wordInColumns l D g ti z (.ref q1) (.ref q3) (.ref q4) (.ref q5) q2 sm2 a (.ref t) (.ref f1) (.ref f2) (.ref on) n N o nm cd wt i (hk_nge 64 c_3) hC.2.2.2.2.1) (cwV 1 hts gX0_normalOutputs_X0_wordInColumns rfl rfl rfl (by decide +kernel) ⟨Nat.le_of_ble_eq_true rfl, Nat.le_of_ble_eq_true rfl⟩) (hk_roV hE hP hS 0 rfl rfl [0, 2, 6] rfl rfl) rfl rfl hl.1 rfl (lv_room (Nat.le_of_ble_eq_true rfl)) dX0_normalOutputs_34 ⟨Nat.zero_le _, Nat.zero_le _⟩) (fun r_7 hr_8 => ?_)
          subst hr_8
          refine hk_ti (nI (wd (oB n ty pa pb vo (-1) i) o)) (by rw [wd_cong (oc_oB hC.2.1 hr_2.2 (hk_nge 64 c_3))]) ?_
          refine lv_lshl hx hb dX0_normalOutputs_37 rfl ?_
          refine lv_lor hx hb dX0_normalOutputs_38 ?_
          refine lv_lstore_n (lv' := [(1, .long (x ||| ((1 : Int64) <<< ((nI (wd (oB n ty pa pb vo (-1) i) o)).toInt64 &&& 63)))), (3, .int (nI i)), (0, .ref z)]) hx hb dX0_normalOutputs_39 rfl hl (by decide) rfl (fun ls hl => ?_)
          refine lv_iinc (v := (nI (i + 1))) (lv' := [(3, .int (nI (i + 1))), (1, .long (x ||| ((1 : Int64) <<< ((nI (wd (oB n ty pa pb vo (-1) i) o)).toInt64 &&& 63)))), (0, .ref z)]) hx hb dX0_normalOutputs_40 hl (k := 1) rfl (nI_1 i) (by decide) rfl (fun ls hl => ?_)
          refine lv_goto (tgt := 9) hx hb dX0_normalOutputs_43 (by decide) ?_
          have hlt : i < 64 := hk_nge 64 c_3
          exact ih_9 (i + 1) (x ||| ((1 : Int64) <<< ((nI (wd (oB n ty pa pb vo (-1) i) o)).toInt64 &&& 63))) (by omega) (by omega) (fun y hy => by rw [lb_or, hx2 y hy, lb_shl1 (Nat.lt_of_lt_of_le (wd_lt _ o) (Nat.pow_le_pow_right (by decide) hC.2.2.2.2.1 : 2 ^ o ≤ 2 ^ 6)) hy]; show _ = (nO nm (fun w => wd (oB n ty pa pb vo (-1) w) o) y i || (lb nm i && _)); rw [bI_1.mp c_6, Bool.true_and]; congr 1; exact decide_eq_decide.mpr eq_comm) _ _ hP hD hS _ (lv_sub hl [0, 1, 2] rfl)
  exact loop9 _ 0 0 (Nat.lt_succ_self _) (Nat.zero_le _) (fun y _ => lb_0 y) _ _ hP hD hS _ (lv_sub hl [0, 1, 2] rfl)
set_option maxHeartbeats 4000000 in
set_option maxRecDepth 100000 in
theorem cj_bitCount (l : Launch) (D : va_G) (g : hk_G) (ti : Nat) (X : Nat) (hX : X < 2 ^ 64) : Met l yJ13_bitCount_95d88 wsJ13_bitCount_95d88 ({ frames := 0, cells := 0, slots := 0, locals := 0 }) (va_Pc [.long (lN X)] (hk_Ro D g ti [])) (vp_Si (fun r => r = nI (ct (lb (lN X)) 64))) 0 0 (fun _ => False) := by
  refine Met.ofW (cc := cJ13_bitCount_95d88) (maxL := 2) (ret := (some .int)) (by decide) rfl ?_
  intro p e s m args below meth c s₁ Bd hml hv
  obtain ⟨rfl, hP, hE⟩ := hv
  have hx := Bd.exec
  have hb := Bd.bytes
  have hr := Bd.returns
  have hts := atoms_spec (ws := wsJ13_bitCount_95d88) Bd.pre
  have hown : s.vm.findClass RJ13 = some m.cls := findClass_of_methodNamed Bd.named
  have hlocks := Bd.notSynchronized
  have hK := hE.1
  have hS : va_S (fun _ => False) s.heap s.heap [] := va_S.rf
  have hl := lv_entry ([.long (lN X)]) (n := 2) (Nat.le_of_ble_eq_true rfl)
  rw [lg_entry_eq]
  generalize (lg_sl ([.long (lN X)]) ++ List.replicate (2 - (lg_sl ([.long (lN X)])).length) Slot.unset).toArray = ls at hl ⊢
  have hl : lv_has ls 2 [(0, .long (lN X))] := hl
  refine lv_lload_n hx hb dJ13_bitCount_95d88_0 rfl (lv_at hl 0 rfl) ?_
  refine lv_lload_n hx hb dJ13_bitCount_95d88_1 rfl (lv_at hl 0 rfl) ?_
  refine lv_iconst (v := 1) hx hb dJ13_bitCount_95d88_2 (by decide) ?_
  refine lv_lushr hx hb dJ13_bitCount_95d88_3 rfl ?_
  refine lv_ldc2 (own := RJ13) (v := (6148914691236517205)) hx hb hown (hts (.constantLong RJ13 314 (6148914691236517205)) (by decide +kernel)) dJ13_bitCount_95d88_4 ?_
  refine lv_land hx hb dJ13_bitCount_95d88_7 ?_
  refine lv_lsub hx hb dJ13_bitCount_95d88_8 ?_
  refine hk_tl (lN (pq_t1 8 X)) (bc1 hX) ?_
  refine lv_lstore_n (lv' := [(0, .long (lN (pq_t1 8 X)))]) hx hb dJ13_bitCount_95d88_9 rfl hl (by decide) rfl (fun ls hl => ?_)
  refine lv_lload_n hx hb dJ13_bitCount_95d88_10 rfl (lv_at hl 0 rfl) ?_
  refine lv_ldc2 (own := RJ13) (v := (3689348814741910323)) hx hb hown (hts (.constantLong RJ13 316 (3689348814741910323)) (by decide +kernel)) dJ13_bitCount_95d88_11 ?_
  refine lv_land hx hb dJ13_bitCount_95d88_14 ?_
  refine lv_lload_n hx hb dJ13_bitCount_95d88_15 rfl (lv_at hl 0 rfl) ?_
  refine lv_iconst (v := 2) hx hb dJ13_bitCount_95d88_16 (by decide) ?_
  refine lv_lushr hx hb dJ13_bitCount_95d88_17 rfl ?_
  refine lv_ldc2 (own := RJ13) (v := (3689348814741910323)) hx hb hown (hts (.constantLong RJ13 316 (3689348814741910323)) (by decide +kernel)) dJ13_bitCount_95d88_18 ?_
  refine lv_land hx hb dJ13_bitCount_95d88_21 ?_
  refine lv_ladd hx hb dJ13_bitCount_95d88_22 ?_
  refine hk_tl (lN (pq_t2 8 (pq_t1 8 X))) (bc2 (bc_t1 hX)) ?_
  refine lv_lstore_n (lv' := [(0, .long (lN (pq_t2 8 (pq_t1 8 X))))]) hx hb dJ13_bitCount_95d88_23 rfl hl (by decide) rfl (fun ls hl => ?_)
  refine lv_lload_n hx hb dJ13_bitCount_95d88_24 rfl (lv_at hl 0 rfl) ?_
  refine lv_lload_n hx hb dJ13_bitCount_95d88_25 rfl (lv_at hl 0 rfl) ?_
  refine lv_iconst (v := 4) hx hb dJ13_bitCount_95d88_26 (by decide) ?_
  refine lv_lushr hx hb dJ13_bitCount_95d88_27 rfl ?_
  refine lv_ladd hx hb dJ13_bitCount_95d88_28 ?_
  refine lv_ldc2 (own := RJ13) (v := (1085102592571150095)) hx hb hown (hts (.constantLong RJ13 318 (1085102592571150095)) (by decide +kernel)) dJ13_bitCount_95d88_29 ?_
  refine lv_land hx hb dJ13_bitCount_95d88_32 ?_
  refine hk_tl (lN (pq_t3 8 (pq_t2 8 (pq_t1 8 X)))) (bc3 (by have := bc_t2 (pq_t1 8 X); omega)) ?_
  refine lv_lstore_n (lv' := [(0, .long (lN (pq_t3 8 (pq_t2 8 (pq_t1 8 X)))))]) hx hb dJ13_bitCount_95d88_33 rfl hl (by decide) rfl (fun ls hl => ?_)
  refine lv_lload_n hx hb dJ13_bitCount_95d88_34 rfl (lv_at hl 0 rfl) ?_
  refine lv_lload_n hx hb dJ13_bitCount_95d88_35 rfl (lv_at hl 0 rfl) ?_
  refine lv_bipush (v := 8) hx hb dJ13_bitCount_95d88_36 (by decide) ?_
  refine lv_lushr hx hb dJ13_bitCount_95d88_38 rfl ?_
  refine lv_ladd hx hb dJ13_bitCount_95d88_39 ?_
  refine hk_tl (lN (pq_f4 (pq_t3 8 (pq_t2 8 (pq_t1 8 X))))) (bc4 (by have := bc_t3 (pq_t2 8 (pq_t1 8 X)); omega)) ?_
  refine lv_lstore_n (lv' := [(0, .long (lN (pq_f4 (pq_t3 8 (pq_t2 8 (pq_t1 8 X))))))]) hx hb dJ13_bitCount_95d88_40 rfl hl (by decide) rfl (fun ls hl => ?_)
  refine lv_lload_n hx hb dJ13_bitCount_95d88_41 rfl (lv_at hl 0 rfl) ?_
  refine lv_lload_n hx hb dJ13_bitCount_95d88_42 rfl (lv_at hl 0 rfl) ?_
  refine lv_bipush (v := 16) hx hb dJ13_bitCount_95d88_43 (by decide) ?_
  refine lv_lushr hx hb dJ13_bitCount_95d88_45 rfl ?_
  refine lv_ladd hx hb dJ13_bitCount_95d88_46 ?_
  refine hk_tl (lN (pq_f5 (pq_t3 8 (pq_t2 8 (pq_t1 8 X))))) (bc5 (by have := bc_t3 (pq_t2 8 (pq_t1 8 X)); unfold pq_f4; omega)) ?_
  refine lv_lstore_n (lv' := [(0, .long (lN (pq_f5 (pq_t3 8 (pq_t2 8 (pq_t1 8 X))))))]) hx hb dJ13_bitCount_95d88_47 rfl hl (by decide) rfl (fun ls hl => ?_)
  refine lv_lload_n hx hb dJ13_bitCount_95d88_48 rfl (lv_at hl 0 rfl) ?_
  refine lv_lload_n hx hb dJ13_bitCount_95d88_49 rfl (lv_at hl 0 rfl) ?_
  refine lv_bipush (v := 32) hx hb dJ13_bitCount_95d88_50 (by decide) ?_
  refine lv_lushr hx hb dJ13_bitCount_95d88_52 rfl ?_
  refine lv_ladd hx hb dJ13_bitCount_95d88_53 ?_
  refine hk_tl (lN (pq_f6 (pq_t3 8 (pq_t2 8 (pq_t1 8 X))))) (bc6 (by have := bc_t3 (pq_t2 8 (pq_t1 8 X)); unfold pq_f5 pq_f4; omega)) ?_
  refine lv_lstore_n (lv' := [(0, .long (lN (pq_f6 (pq_t3 8 (pq_t2 8 (pq_t1 8 X))))))]) hx hb dJ13_bitCount_95d88_54 rfl hl (by decide) rfl (fun ls hl => ?_)
  refine lv_lload_n hx hb dJ13_bitCount_95d88_55 rfl (lv_at hl 0 rfl) ?_
  refine lv_l2i hx hb dJ13_bitCount_95d88_56 rfl ?_
  refine lv_bipush (v := 127) hx hb dJ13_bitCount_95d88_57 (by decide) ?_
  refine lv_iand hx hb dJ13_bitCount_95d88_59 ?_
  exact W.iret (v := ((lN (pq_f6 (pq_t3 8 (pq_t2 8 (pq_t1 8 X))))).toInt32 &&& (127 : Int32))) hx hb hr (fun tt ht hW => ⟨_, rfl, by rw [bc7, (pq_bc_n hX).1, bc_ct], ht⟩) (fun _ h => by cases h) dJ13_bitCount_95d88_60
theorem hk_ae {e e0 x : Int64} {f v y : Nat} (h : e = if lb x v = true then e0 ||| ((1 : Int64) <<< ((nI f).toInt64 &&& 63)) else e0) (hf : f < 64) (hy : y < 64) : lb e y = (lb e0 y || (lb x v && decide (y = f))) := by
  rw [h]
  cases hb : lb x v
  · rw [if_neg (by decide), Bool.false_and, Bool.or_false]
  · rw [if_pos rfl, lb_or, lb_shl1 hf hy, Bool.true_and]
set_option maxHeartbeats 4000000 in
set_option maxRecDepth 100000 in
theorem c0_addExposed (l : Launch) (D : va_G) (g : hk_G) (ti : Nat) (sz : Nat) (z : Nat) (v0 : Value) (v1 : Value) (v2 : Value) (v3 : Value) (v4 : Value) (q5 : Nat) (ef : Nat → Int64) (f : Nat) (x : Int64) (hf : f < 64) : Met l yX0_addExposed wsX0_addExposed ({ frames := 1, cells := 0, slots := 0, locals := 22 }) (va_Pc [.ref z, .int (nI f), .long x] (hk_In D g ti [(z, .inr (0, [v0, v1, v2, v3, v4, .ref q5])), (q5, .inl (g.2.2.1, 64, .inr (.inl ef)))] sz)) (va_Qv (S := Nat → Int64) (fun f' => ∀ v, v < 64 → ∀ y, y < 64 → lb (f' v) y = (lb (ef v) y || (lb x v && decide (y = f)))) (fun u => hk_Out D (va_A [(z, .inr (0, [v0, v1, v2, v3, v4, .ref q5])), (q5, .inl (g.2.2.1, 64, .inr (.inl ef)))] sz) (match u with | f' => [(z, .inr (0, [v0, v1, v2, v3, v4, .ref q5])), (q5, .inl (g.2.2.1, 64, .inr (.inl f')))])) (va_A [(z, .inr (0, [v0, v1, v2, v3, v4, .ref q5])), (q5, .inl (g.2.2.1, 64, .inr (.inl ef)))] sz)) 0 0 (va_A [(z, .inr (0, [v0, v1, v2, v3, v4, .ref q5])), (q5, .inl (g.2.2.1, 64, .inr (.inl ef)))] sz) := by
  refine Met.ofW (cc := cX0_addExposed) (maxL := 5) (ret := none) (by decide) rfl ?_
  intro p e s m args below meth c s₁ Bd hml hv
  obtain ⟨rfl, hsz, hP, hD0, hE⟩ := hv
  have hx := Bd.exec
  have hb := Bd.bytes
  have hr := Bd.returns
  have hts := atoms_spec (ws := wsX0_addExposed) Bd.pre
  have hown : s.vm.findClass RX0 = some m.cls := findClass_of_methodNamed Bd.named
  have hlocks := Bd.notSynchronized
  have hK := hE.1
  have hi0 : ∀ w ∈ wsX00, w ∈ wsX0_addExposed := fun w h => List.mem_cons_of_mem _ (List.mem_append_right _ h)
  subst hsz
  have hD := hD0.self (sz := s.heap.size)
  generalize hAe : va_A [(z, .inr (0, [v0, v1, v2, v3, v4, .ref q5])), (q5, .inl (g.2.2.1, 64, .inr (.inl ef)))] s.heap.size = A at hD hE ⊢
  have hA : ∀ q : Nat, s.heap.size ≤ q → A q := fun q h => by rw [← hAe]; exact Or.inr h
  have hS : va_S A s.heap s.heap [] := va_S.rf
  have hl := lv_entry ([.ref z, .int (nI f), .long x]) (n := 5) (Nat.le_of_ble_eq_true rfl)
  rw [lg_entry_eq]
  generalize (lg_sl ([.ref z, .int (nI f), .long x]) ++ List.replicate (5 - (lg_sl ([.ref z, .int (nI f), .long x])).length) Slot.unset).toArray = ls at hl ⊢
  have hl : lv_has ls 5 [(0, .ref z), (1, .int (nI f)), (2, .long x)] := hl
  refine lv_iconst (v := 0) hx hb dX0_addExposed_0 (by decide) ?_
  refine lv_istore (lv' := [(4, .int 0), (0, .ref z), (1, .int (nI f)), (2, .long x)]) hx hb dX0_addExposed_1 hl (by decide) rfl (fun ls hl => ?_)
  have loop3 : ∀ (fuel : Nat) (i : Nat) (eg : Nat → Int64), (64 - i) < fuel → (i ≤ 64) → (∀ v, v < i → eg v = if lb x v = true then ef v ||| ((1 : Int64) <<< ((nI f).toInt64 &&& 63)) else ef v) → (∀ v, i ≤ v → eg v = ef v) → ∀ (H : Heap) (locs : List Loc), va_P D vwCl [(z, .inr (0, [v0, v1, v2, v3, v4, .ref q5])), (q5, .inl (g.2.2.1, 64, .inr (.inl eg)))] H → va_D A [(z, .inr (0, [v0, v1, v2, v3, v4, .ref q5])), (q5, .inl (g.2.2.1, 64, .inr (.inl eg)))] → va_S A s.heap H locs → ∀ ls : Array Slot, lv_has ls 5 [(4, .int (nI i)), (2, .long x), (0, .ref z), (1, .int (nI f))] → W p l e (headSpec wsX0_addExposed ({ frames := 1, cells := 0, slots := 0, locals := 22 })).room s m ([.ref z, .int (nI f), .long x] : List Value).toArray below meth c H locs 0 0 (MQ below (va_Qv (S := Nat → Int64) (fun f' => ∀ v, v < 64 → ∀ y, y < 64 → lb (f' v) y = (lb (ef v) y || (lb x v && decide (y = f)))) (fun u => hk_Out D A (match u with | f' => [(z, .inr (0, [v0, v1, v2, v3, v4, .ref q5])), (q5, .inl (g.2.2.1, 64, .inr (.inl f')))])) A) ([.ref z, .int (nI f), .long x] : List Value).toArray s 0 0 A) (F0 m 3 ls []) := by
    intro fuel
    induction fuel with
    | zero => intro i eg hm; exact absurd hm (Nat.not_lt_zero _)
    | succ fuel ih_3 =>
      intro i eg hm_3 hi he hr2 H locs hP hD hS ls hl
      refine lv_iload hx hb dX0_addExposed_3 (lv_at hl 0 rfl) ?_
      refine lv_bipush (v := 64) hx hb dX0_addExposed_5 (by decide) ?_
      refine lv_icmp_ge (tgt := 39) hx hb dX0_addExposed_7 (by decide) (fun c_1 => ?_) (fun c_1 => ?_)
      · have c_1h : (64 : Int32) ≤ nI i := c_1
        have hP9 := hP.sub (ws' := [(z, .inr (0, [v0, v1, v2, v3, v4, .ref q5])), (q5, .inl (g.2.2.1, 64, .inr (.inl eg)))]) [0, 1] rfl
        have hD9 := hD.sub (ws' := [(z, .inr (0, [v0, v1, v2, v3, v4, .ref q5])), (q5, .inl (g.2.2.1, 64, .inr (.inl eg)))]) [0, 1] (by decide) rfl
        exact W.vret hx hb hr (fun tt ht hW => ⟨⟨eg, rfl, fun v hv y hy => hk_ae (he v (by have := hk_ge 64 c_1; omega)) hf hy, by rw [ht]; exact hP9, hD9⟩, hS.F ht⟩) hS.2.2 dX0_addExposed_39
      · have c_1h : ¬ (64 : Int32) ≤ nI i := c_1
        refine lv_lload_n hx hb dX0_addExposed_10 rfl (lv_at hl 1 rfl) ?_
        refine lv_iload hx hb dX0_addExposed_11 (lv_at hl 0 rfl) ?_
        refine hk_csi (va_runSN (As := [.long x, .int (nI i)]) (rest := []) ⟨hx, hb, hml, hown, hts⟩ (c5_bit l D g ti x i (hk_nge 64 c_1)) ⟨va_cnB 2 hts gX0_addExposed_X5_bit_n68 rfl rfl rfl (nm_X0_68 hE.2.1) (hts (.initialized RX5) (by decide +kernel)) (by decide +kernel) ⟨Nat.le_of_ble_eq_true rfl, Nat.le_of_ble_eq_true rfl⟩, hts (.static yX5_bit) (by decide +kernel), trivial⟩ (hk_roS hE hP hS [] rfl) rfl rfl hl.1 rfl (lv_room (Nat.le_of_ble_eq_true rfl)) dX0_addExposed_13 ⟨Nat.zero_le _, Nat.zero_le _⟩) (fun r_2 hr_3 => ?_)
        subst hr_3
        refine lv_iconst (v := 1) hx hb dX0_addExposed_16 (by decide) ?_
        refine lv_icmp_ne (tgt := 33) hx hb dX0_addExposed_17 (by decide) (fun c_4 => ?_) (fun c_4 => ?_)
        · have c_4h : ¬ (bI (lb x i)) = (1 : Int32) := c_4
          refine lv_iinc (v := (nI (i + 1))) (lv' := [(4, .int (nI (i + 1))), (2, .long x), (0, .ref z), (1, .int (nI f))]) hx hb dX0_addExposed_33 hl (k := 0) rfl (nI_1 i) (by decide) rfl (fun ls hl => ?_)
          refine lv_goto (tgt := 3) hx hb dX0_addExposed_36 (by decide) ?_
          have hlt : i < 64 := hk_nge 64 c_1
          exact ih_3 (i + 1) eg (by omega) (by omega) (fun v hv => (Nat.lt_succ_iff_lt_or_eq.mp hv).elim (he v) (fun q => by subst q; rw [hr2 v (Nat.le_refl v), if_neg (by rw [bI_n1 c_4]; decide)])) (fun v hv => hr2 v (by omega)) _ _ hP hD hS _ (lv_sub hl [0, 1, 2, 3] rfl)
        · have c_4h : (bI (lb x i)) = (1 : Int32) := c_4
          refine lv_aload_n hx hb dX0_addExposed_20 rfl (lv_at hl 2 rfl) ?_
          refine va_get (D := D) (ci := 0) (v := .ref q5) (C := RX0) (T := TX0) (N := 6) hx hb hts hi0 hown hK hP 0 rfl rfl 5 (by decide) (hts (.fieldLink RX0 24 "SelfCheckingCircuit$Analysis" "exposedFaults" "[J") (by decide +kernel)) (fun _ h9 => h9) rfl dX0_addExposed_21 ?_
          refine lv_iload hx hb dX0_addExposed_24 (lv_at hl 0 rfl) ?_
          refine lv_dup2_11 hx hb dX0_addExposed_26 rfl rfl ?_
          refine va_lald hx hb hK hP 1 2 rfl rfl (vp_in_nI (N := 64) (hk_nge 64 c_1) (by decide)) dX0_addExposed_27 ?_
          refine hk_tl (eg i) (congrArg eg (nI_clamp (by omega))) ?_
          refine lv_lconst (v := 1) hx hb dX0_addExposed_28 (by decide) ?_
          refine lv_iload_n hx hb dX0_addExposed_29 rfl (lv_at hl 3 rfl) ?_
          refine lv_lshl hx hb dX0_addExposed_30 rfl ?_
          refine lv_lor hx hb dX0_addExposed_31 ?_
          refine va_last hx hb hK hP hD hS 1 2 rfl rfl (vp_in_nI (N := 64) (hk_nge 64 c_1) (by decide)) dX0_addExposed_32 (fun H locs hP hD hS => ?_)
          rw [show (nI i).toNatClampNeg = i from nI_clamp (by omega)] at hP hD
          have hP : va_P D vwCl [(z, .inr (0, [v0, v1, v2, v3, v4, .ref q5])), (q5, .inl (g.2.2.1, 64, .inr (.inl (vp_updL eg i ((eg i) ||| ((1 : Int64) <<< ((nI f).toInt64 &&& 63)))))))] H := hP
          have hD : va_D A [(z, .inr (0, [v0, v1, v2, v3, v4, .ref q5])), (q5, .inl (g.2.2.1, 64, .inr (.inl (vp_updL eg i ((eg i) ||| ((1 : Int64) <<< ((nI f).toInt64 &&& 63)))))))] := hD
          refine lv_iinc (v := (nI (i + 1))) (lv' := [(4, .int (nI (i + 1))), (2, .long x), (0, .ref z), (1, .int (nI f))]) hx hb dX0_addExposed_33 hl (k := 0) rfl (nI_1 i) (by decide) rfl (fun ls hl => ?_)
          refine lv_goto (tgt := 3) hx hb dX0_addExposed_36 (by decide) ?_
          have hlt : i < 64 := hk_nge 64 c_1
          exact ih_3 (i + 1) (vp_updL eg i ((eg i) ||| ((1 : Int64) <<< ((nI f).toInt64 &&& 63)))) (by omega) (by omega) (hk_upL (fun v y => y = if lb x v = true then ef v ||| ((1 : Int64) <<< ((nI f).toInt64 &&& 63)) else ef v) he (by rw [if_pos (bI_1.mp c_4), hr2 i (Nat.le_refl i)])) (fun v hv => by rw [pk_uLn (by omega)]; exact hr2 v (by omega)) _ _ hP hD hS _ (lv_sub hl [0, 1, 2, 3] rfl)
  exact loop3 _ 0 ef (Nat.lt_succ_self _) (Nat.zero_le _) (fun _ h => absurd h (Nat.not_lt_zero _)) (fun _ _ => rfl) _ _ hP hD hS _ (lv_sub hl [0, 3, 1, 2] rfl)
theorem hk_ge2 {a b : Nat} (h : nI a ≤ nI b) (ha : a ≤ 64) (hb : b ≤ 64) : a ≤ b := (nI_leI (by omega) (by omega)).mp h
theorem hk_lt2 {a b : Nat} (h : ¬ nI a ≤ nI b) (ha : a ≤ 64) (hb : b ≤ 64) : b < a := Nat.not_le.mp fun q => h ((nI_leI (by omega) (by omega)).mpr q)
set_option maxHeartbeats 4000000 in
set_option maxRecDepth 100000 in
theorem c0_bestWord (l : Launch) (D : va_G) (g : hk_G) (ti : Nat) (z : Nat) (v0 : Value) (v1 : Value) (v2 : Value) (v3 : Value) (v4 : Value) (q5 : Nat) (ef : Nat → Int64) (op : Int64)  : Met l yX0_bestWord wsX0_bestWord ({ frames := 1, cells := 0, slots := 0, locals := 21 }) (va_Pc [.ref z, .long op] (hk_Ro D g ti [(z, .inr (0, [v0, v1, v2, v3, v4, .ref q5])), (q5, .inl (g.2.2.1, 64, .inr (.inl ef)))])) (vp_Si (fun r => isB (cO ef op) 64 r)) 0 0 (fun _ => False) := by
  refine Met.ofW (cc := cX0_bestWord) (maxL := 7) (ret := (some .int)) (by decide) rfl ?_
  intro p e s m args below meth c s₁ Bd hml hv
  obtain ⟨rfl, hP, hE⟩ := hv
  have hx := Bd.exec
  have hb := Bd.bytes
  have hr := Bd.returns
  have hts := atoms_spec (ws := wsX0_bestWord) Bd.pre
  have hown : s.vm.findClass RX0 = some m.cls := findClass_of_methodNamed Bd.named
  have hlocks := Bd.notSynchronized
  have hK := hE.1
  have hi0 : ∀ w ∈ wsX00, w ∈ wsX0_bestWord := fun w h => List.mem_cons_of_mem _ (List.mem_append_right _ h)
  have hS : va_S (fun _ => False) s.heap s.heap [] := va_S.rf
  have hl := lv_entry ([.ref z, .long op]) (n := 7) (Nat.le_of_ble_eq_true rfl)
  rw [lg_entry_eq]
  generalize (lg_sl ([.ref z, .long op]) ++ List.replicate (7 - (lg_sl ([.ref z, .long op])).length) Slot.unset).toArray = ls at hl ⊢
  have hl : lv_has ls 7 [(0, .ref z), (1, .long op)] := hl
  refine lv_bipush (v := (-104)) hx hb dX0_bestWord_0 (by decide) ?_
  refine lv_istore_n (lv' := [(3, .int (-104)), (0, .ref z), (1, .long op)]) hx hb dX0_bestWord_2 rfl hl (by decide) rfl (fun ls hl => ?_)
  refine lv_iconst (v := 0) hx hb dX0_bestWord_3 (by decide) ?_
  refine lv_istore (lv' := [(4, .int 0), (3, .int (-104)), (0, .ref z), (1, .long op)]) hx hb dX0_bestWord_4 hl (by decide) rfl (fun ls hl => ?_)
  refine lv_iconst (v := 0) hx hb dX0_bestWord_6 (by decide) ?_
  refine lv_istore (lv' := [(5, .int 0), (4, .int 0), (3, .int (-104)), (0, .ref z), (1, .long op)]) hx hb dX0_bestWord_7 hl (by decide) rfl (fun ls hl => ?_)
  have loop9 : ∀ (fuel : Nat) (i : Nat) (b : Int32) (mo : Nat), (64 - i) < fuel → (i ≤ 64) → (jB (cO ef op) i b mo) → ∀ ls : Array Slot, lv_has ls 7 [(5, .int (nI i)), (4, .int (nI mo)), (3, .int b), (0, .ref z), (1, .long op)] → W p l e (headSpec wsX0_bestWord ({ frames := 1, cells := 0, slots := 0, locals := 21 })).room s m ([.ref z, .long op] : List Value).toArray below meth c s.heap [] 0 0 (MQ below (vp_Si (fun r => isB (cO ef op) 64 r)) ([.ref z, .long op] : List Value).toArray s 0 0 (fun _ => False)) (F0 m 9 ls []) := by
    intro fuel
    induction fuel with
    | zero => intro i b mo hm; exact absurd hm (Nat.not_lt_zero _)
    | succ fuel ih_9 =>
      intro i b mo hm_9 hi hj ls hl
      refine lv_iload hx hb dX0_bestWord_9 (lv_at hl 0 rfl) ?_
      refine lv_bipush (v := 64) hx hb dX0_bestWord_11 (by decide) ?_
      refine lv_icmp_ge (tgt := 50) hx hb dX0_bestWord_13 (by decide) (fun c_1 => ?_) (fun c_1 => ?_)
      · have c_1h : (64 : Int32) ≤ nI i := c_1
        refine lv_iload_n hx hb dX0_bestWord_50 rfl (lv_at hl 2 rfl) ?_
        exact W.iret (v := b) hx hb hr (fun tt ht hW => ⟨_, rfl, jB_end ((show i = 64 by have := hk_ge 64 c_1; omega) ▸ hj), ht⟩) (fun _ h => by cases h) dX0_bestWord_51
      · have c_1h : ¬ (64 : Int32) ≤ nI i := c_1
        refine lv_aload_n hx hb dX0_bestWord_16 rfl (lv_at hl 3 rfl) ?_
        refine va_get (D := D) (ci := 0) (v := .ref q5) (C := RX0) (T := TX0) (N := 6) hx hb hts hi0 hown hK hP 0 rfl rfl 5 (by decide) (hts (.fieldLink RX0 24 "SelfCheckingCircuit$Analysis" "exposedFaults" "[J") (by decide +kernel)) (fun _ h9 => h9) rfl dX0_bestWord_17 ?_
        refine lv_iload hx hb dX0_bestWord_20 (lv_at hl 0 rfl) ?_
        refine va_lald hx hb hK hP 1 2 rfl rfl (vp_in_nI (N := 64) (hk_nge 64 c_1) (by decide)) dX0_bestWord_22 ?_
        refine hk_tl (ef i) (congrArg ef (nI_clamp (by omega))) ?_
        refine lv_lload_n hx hb dX0_bestWord_23 rfl (lv_at hl 4 rfl) ?_
        refine lv_land hx hb dX0_bestWord_24 ?_
        obtain ⟨X, hX, eX⟩ := wb_of ((ef i) &&& op)
        refine hk_tl (lN X) eX ?_
        refine hk_csi (va_runS (As := [.long (lN X)]) (rest := []) ⟨hx, hb, hml, hown, hts⟩ (cj_bitCount l D g ti X hX) (va_cwS 1 hts gX0_bestWord_J13_bitCount_95d88 rfl rfl rfl (by decide +kernel) ⟨Nat.le_of_ble_eq_true rfl, Nat.le_of_ble_eq_true rfl⟩) (hk_roS hE hP hS [] rfl) rfl rfl hl.1 rfl (lv_room (Nat.le_of_ble_eq_true rfl)) dX0_bestWord_25 ⟨Nat.zero_le _, Nat.zero_le _⟩) (fun r_2 hr_3 => ?_)
        subst hr_3
        refine hk_ti (nI (cO ef op i)) (by rw [← eX]; rfl) ?_
        refine lv_istore (lv' := [(6, .int (nI (cO ef op i))), (5, .int (nI i)), (4, .int (nI mo)), (3, .int b), (0, .ref z), (1, .long op)]) hx hb dX0_bestWord_28 hl (by decide) rfl (fun ls hl => ?_)
        refine lv_iload hx hb dX0_bestWord_30 (lv_at hl 0 rfl) ?_
        refine lv_iload hx hb dX0_bestWord_32 (lv_at hl 2 rfl) ?_
        refine lv_icmp_le (tgt := 44) hx hb dX0_bestWord_34 (by decide) (fun c_4 => ?_) (fun c_4 => ?_)
        · have c_4h : nI (cO ef op i) ≤ nI mo := c_4
          refine lv_iinc (v := (nI (i + 1))) (lv' := [(5, .int (nI (i + 1))), (6, .int (nI (cO ef op i))), (4, .int (nI mo)), (3, .int b), (0, .ref z), (1, .long op)]) hx hb dX0_bestWord_44 hl (k := 1) rfl (nI_1 i) (by decide) rfl (fun ls hl => ?_)
          refine lv_goto (tgt := 9) hx hb dX0_bestWord_47 (by decide) ?_
          have hlt : i < 64 := hk_nge 64 c_1
          exact ih_9 (i + 1) b mo (by omega) (by omega) (jB_st hj (hk_ge2 c_4 (cO_le ef op i) (jB_le hj (cO_le ef op)))) _ (lv_sub hl [0, 2, 3, 4, 5] rfl)
        · have c_4h : ¬ nI (cO ef op i) ≤ nI mo := c_4
          refine lv_iload hx hb dX0_bestWord_37 (lv_at hl 0 rfl) ?_
          refine lv_istore (lv' := [(4, .int (nI (cO ef op i))), (6, .int (nI (cO ef op i))), (5, .int (nI i)), (3, .int b), (0, .ref z), (1, .long op)]) hx hb dX0_bestWord_39 hl (by decide) rfl (fun ls hl => ?_)
          refine lv_iload hx hb dX0_bestWord_41 (lv_at hl 2 rfl) ?_
          refine lv_istore_n (lv' := [(3, .int (nI i)), (4, .int (nI (cO ef op i))), (6, .int (nI (cO ef op i))), (5, .int (nI i)), (0, .ref z), (1, .long op)]) hx hb dX0_bestWord_43 rfl hl (by decide) rfl (fun ls hl => ?_)
          refine lv_iinc (v := (nI (i + 1))) (lv' := [(5, .int (nI (i + 1))), (3, .int (nI i)), (4, .int (nI (cO ef op i))), (6, .int (nI (cO ef op i))), (0, .ref z), (1, .long op)]) hx hb dX0_bestWord_44 hl (k := 3) rfl (nI_1 i) (by decide) rfl (fun ls hl => ?_)
          refine lv_goto (tgt := 9) hx hb dX0_bestWord_47 (by decide) ?_
          have hlt : i < 64 := hk_nge 64 c_1
          exact ih_9 (i + 1) (nI i) (cO ef op i) (by omega) (by omega) (jB_up hj (hk_lt2 c_4 (cO_le ef op i) (jB_le hj (cO_le ef op)))) _ (lv_sub hl [0, 2, 1, 4, 5] rfl)
  exact loop9 _ 0 (-104) 0 (Nat.lt_succ_self _) (Nat.zero_le _) (jB_0 _) _ (lv_sub hl [0, 1, 2, 3, 4] rfl)
