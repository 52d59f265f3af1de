set_option maxHeartbeats 4000000 in
set_option maxRecDepth 100000 in
theorem c1_putGate (l : Launch) (D : va_G) (g : hk_G) (ti : Nat) (sz : Nat) (a : Nat) (t : Nat) (f1 : Nat) (f2 : Nat) (on : Nat) (ft : Nat → Int32) (fa : Nat → Int32) (fb : Nat → Int32) (fo : Nat → Int32) (n : Nat) (N : Nat) (o : Nat) (nm : Int64) (cd : Nat) (wt : Nat) (y : Int32) (p1 : Int32) (p2 : Int32) (hN : N < 30) : Met l yX1_putGate wsX1_putGate ({ frames := 0, cells := 0, slots := 0, locals := 0 }) (va_Pc [.ref a, .int y, .int p1, .int p2] (hk_In D g ti [(a, .inr (1, [.ref t, .ref f1, .ref f2, .ref on, .int (nI n), .int (nI N), .int (nI o), .long nm, .int (nI cd), .int (nI wt)])), (t, .inl (g.2.1, 30, .inl ft)), (f1, .inl (g.2.1, 30, .inl fa)), (f2, .inl (g.2.1, 30, .inl fb)), (on, .inl (g.2.1, 6, .inl fo))] sz)) (va_Qi (S := Unit) (fun r _ => r = nI N) (fun u => hk_Out D (va_A [(a, .inr (1, [.ref t, .ref f1, .ref f2, .ref on, .int (nI n), .int (nI N), .int (nI o), .long nm, .int (nI cd), .int (nI wt)])), (t, .inl (g.2.1, 30, .inl ft)), (f1, .inl (g.2.1, 30, .inl fa)), (f2, .inl (g.2.1, 30, .inl fb)), (on, .inl (g.2.1, 6, .inl fo))] sz) (match u with | _ => [(a, .inr (1, [.ref t, .ref f1, .ref f2, .ref on, .int (nI n), .int (nI (N + 1)), .int (nI o), .long nm, .int (nI cd), .int (nI wt)])), (t, .inl (g.2.1, 30, .inl (upd ft N y))), (f1, .inl (g.2.1, 30, .inl (upd fa N p1))), (f2, .inl (g.2.1, 30, .inl (upd fb N (if y = 5 then p1 else p2)))), (on, .inl (g.2.1, 6, .inl fo))])) (va_A [(a, .inr (1, [.ref t, .ref f1, .ref f2, .ref on, .int (nI n), .int (nI N), .int (nI o), .long nm, .int (nI cd), .int (nI wt)])), (t, .inl (g.2.1, 30, .inl ft)), (f1, .inl (g.2.1, 30, .inl fa)), (f2, .inl (g.2.1, 30, .inl fb)), (on, .inl (g.2.1, 6, .inl fo))] sz)) 0 0 (va_A [(a, .inr (1, [.ref t, .ref f1, .ref f2, .ref on, .int (nI n), .int (nI N), .int (nI o), .long nm, .int (nI cd), .int (nI wt)])), (t, .inl (g.2.1, 30, .inl ft)), (f1, .inl (g.2.1, 30, .inl fa)), (f2, .inl (g.2.1, 30, .inl fb)), (on, .inl (g.2.1, 6, .inl fo))] sz) := by
  refine Met.ofW (cc := cX1_putGate) (maxL := 5) (ret := (some .int)) (by decide) rfl ?_
  intro p e s m args below meth c s₁ B hml hv
  obtain ⟨rfl, hsz, hP, hD0, hE⟩ := hv
  have hx := B.exec
  have hb := B.bytes
  have hr := B.returns
  have hts := atoms_spec (ws := wsX1_putGate) B.pre
  have hown : s.vm.findClass RX1 = some m.cls := findClass_of_methodNamed B.named
  have hlocks := B.notSynchronized
  have hK := hE.1
  have hi1 : ∀ w ∈ wsX10, w ∈ wsX1_putGate := fun w h => List.mem_cons_of_mem _ (List.mem_append_right _ h)
  subst hsz
  have hD := hD0.self (sz := s.heap.size)
  generalize hAe : va_A [(a, .inr (1, [.ref t, .ref f1, .ref f2, .ref on, .int (nI n), .int (nI N), .int (nI o), .long nm, .int (nI cd), .int (nI wt)])), (t, .inl (g.2.1, 30, .inl ft)), (f1, .inl (g.2.1, 30, .inl fa)), (f2, .inl (g.2.1, 30, .inl fb)), (on, .inl (g.2.1, 6, .inl fo))] s.heap.size = A at hD hE ⊢
  have hA : ∀ q : Nat, s.heap.size ≤ q → A q := fun q h => by rw [← hAe]; exact Or.inr h
  have hS : va_S A s.heap s.heap [] := va_S.rf
  have hl := lv_entry ([.ref a, .int y, .int p1, .int p2]) (n := 5) (Nat.le_of_ble_eq_true rfl)
  rw [lg_entry_eq]
  generalize (lg_sl ([.ref a, .int y, .int p1, .int p2]) ++ List.replicate (5 - (lg_sl ([.ref a, .int y, .int p1, .int p2])).length) Slot.unset).toArray = ls at hl ⊢
  have hl : lv_has ls 5 [(0, .ref a), (1, .int y), (2, .int p1), (3, .int p2)] := hl
  refine lv_aload_n hx hb dX1_putGate_0 rfl (lv_at hl 0 rfl) ?_
  refine va_get (D := D) (ci := 1) (v := .int (nI N)) (C := RX1) (T := TX1) (N := 10) hx hb hts hi1 hown hK hP 0 rfl rfl 5 (by decide) (hts (.fieldLink RX1 34 "SelfCheckingCircuit$Circuit" "nodes" "I") (by decide +kernel)) (fun _ h9 => h9) rfl dX1_putGate_1 ?_
  refine lv_istore (lv' := [(4, .int (nI N)), (0, .ref a), (1, .int y), (2, .int p1), (3, .int p2)]) hx hb dX1_putGate_4 hl (by decide) rfl (fun ls hl => ?_)
  refine lv_iload hx hb dX1_putGate_6 (lv_at hl 0 rfl) ?_
  refine lv_if_lt (tgt := 18) hx hb dX1_putGate_8 (by decide) (fun c_1 => ?_) (fun c_1 => ?_)
  · have c_1h : nI N < (0 : Int32) := c_1
    exact absurd c_1 (nI_pos (by omega))
  · have c_1h : ¬ nI N < (0 : Int32) := c_1
    refine lv_iload hx hb dX1_putGate_11 (lv_at hl 0 rfl) ?_
    refine lv_bipush (v := 30) hx hb dX1_putGate_13 (by decide) ?_
    refine lv_icmp_lt (tgt := 21) hx hb dX1_putGate_15 (by decide) (fun c_2 => ?_) (fun c_2 => ?_)
    · have c_2h : nI N < (30 : Int32) := c_2
      refine lv_aload_n hx hb dX1_putGate_21 rfl (lv_at hl 1 rfl) ?_
      refine va_get (D := D) (ci := 1) (v := .ref t) (C := RX1) (T := TX1) (N := 10) hx hb hts hi1 hown hK hP 0 rfl rfl 0 (by decide) (hts (.fieldLink RX1 9 "SelfCheckingCircuit$Circuit" "types" "[I") (by decide +kernel)) (fun _ h9 => h9) rfl dX1_putGate_22 ?_
      refine lv_iload hx hb dX1_putGate_25 (lv_at hl 0 rfl) ?_
      refine lv_iload_n hx hb dX1_putGate_27 rfl (lv_at hl 2 rfl) ?_
      refine va_iast hx hb hK hP hD hS 1 1 rfl rfl (vp_in_nI (N := 30) hN (by decide)) dX1_putGate_28 (fun H locs hP hD hS => ?_)
      rw [show (nI N).toNatClampNeg = N from nI_clamp (by omega)] at hP hD
      have hP : va_P D vwCl [(a, .inr (1, [.ref t, .ref f1, .ref f2, .ref on, .int (nI n), .int (nI N), .int (nI o), .long nm, .int (nI cd), .int (nI wt)])), (t, .inl (g.2.1, 30, .inl (upd ft N y))), (f1, .inl (g.2.1, 30, .inl fa)), (f2, .inl (g.2.1, 30, .inl fb)), (on, .inl (g.2.1, 6, .inl fo))] H := hP
      have hD : va_D A [(a, .inr (1, [.ref t, .ref f1, .ref f2, .ref on, .int (nI n), .int (nI N), .int (nI o), .long nm, .int (nI cd), .int (nI wt)])), (t, .inl (g.2.1, 30, .inl (upd ft N y))), (f1, .inl (g.2.1, 30, .inl fa)), (f2, .inl (g.2.1, 30, .inl fb)), (on, .inl (g.2.1, 6, .inl fo))] := hD
      refine lv_aload_n hx hb dX1_putGate_29 rfl (lv_at hl 1 rfl) ?_
      refine va_get (D := D) (ci := 1) (v := .ref f1) (C := RX1) (T := TX1) (N := 10) hx hb hts hi1 hown hK hP 0 rfl rfl 1 (by decide) (hts (.fieldLink RX1 15 "SelfCheckingCircuit$Circuit" "firsts" "[I") (by decide +kernel)) (fun _ h9 => h9) rfl dX1_putGate_30 ?_
      refine lv_iload hx hb dX1_putGate_33 (lv_at hl 0 rfl) ?_
      refine lv_iload_n hx hb dX1_putGate_35 rfl (lv_at hl 3 rfl) ?_
      refine va_iast hx hb hK hP hD hS 2 1 rfl rfl (vp_in_nI (N := 30) hN (by decide)) dX1_putGate_36 (fun H locs hP hD hS => ?_)
      rw [show (nI N).toNatClampNeg = N from nI_clamp (by omega)] at hP hD
      have hP : va_P D vwCl [(a, .inr (1, [.ref t, .ref f1, .ref f2, .ref on, .int (nI n), .int (nI N), .int (nI o), .long nm, .int (nI cd), .int (nI wt)])), (t, .inl (g.2.1, 30, .inl (upd ft N y))), (f1, .inl (g.2.1, 30, .inl (upd fa N p1))), (f2, .inl (g.2.1, 30, .inl fb)), (on, .inl (g.2.1, 6, .inl fo))] H := hP
      have hD : va_D A [(a, .inr (1, [.ref t, .ref f1, .ref f2, .ref on, .int (nI n), .int (nI N), .int (nI o), .long nm, .int (nI cd), .int (nI wt)])), (t, .inl (g.2.1, 30, .inl (upd ft N y))), (f1, .inl (g.2.1, 30, .inl (upd fa N p1))), (f2, .inl (g.2.1, 30, .inl fb)), (on, .inl (g.2.1, 6, .inl fo))] := hD
      refine lv_aload_n hx hb dX1_putGate_37 rfl (lv_at hl 1 rfl) ?_
      refine va_get (D := D) (ci := 1) (v := .ref f2) (C := RX1) (T := TX1) (N := 10) hx hb hts hi1 hown hK hP 0 rfl rfl 2 (by decide) (hts (.fieldLink RX1 18 "SelfCheckingCircuit$Circuit" "seconds" "[I") (by decide +kernel)) (fun _ h9 => h9) rfl dX1_putGate_38 ?_
      refine lv_iload hx hb dX1_putGate_41 (lv_at hl 0 rfl) ?_
      refine lv_iload_n hx hb dX1_putGate_43 rfl (lv_at hl 2 rfl) ?_
      refine lv_iconst (v := 5) hx hb dX1_putGate_44 (by decide) ?_
      refine lv_icmp_ne (tgt := 52) hx hb dX1_putGate_45 (by decide) (fun c_3 => ?_) (fun c_3 => ?_)
      · have c_3h : ¬ y = (5 : Int32) := c_3
        refine lv_iload_n hx hb dX1_putGate_52 rfl (lv_at hl 4 rfl) ?_
        refine hk_ti (if y = 5 then p1 else p2) (by rw [if_neg c_3]) ?_
        refine va_iast hx hb hK hP hD hS 3 1 rfl rfl (vp_in_nI (N := 30) hN (by decide)) dX1_putGate_53 (fun H locs hP hD hS => ?_)
        rw [show (nI N).toNatClampNeg = N from nI_clamp (by omega)] at hP hD
        have hP : va_P D vwCl [(a, .inr (1, [.ref t, .ref f1, .ref f2, .ref on, .int (nI n), .int (nI N), .int (nI o), .long nm, .int (nI cd), .int (nI wt)])), (t, .inl (g.2.1, 30, .inl (upd ft N y))), (f1, .inl (g.2.1, 30, .inl (upd fa N p1))), (f2, .inl (g.2.1, 30, .inl (upd fb N (if y = 5 then p1 else p2)))), (on, .inl (g.2.1, 6, .inl fo))] H := hP
        have hD : va_D A [(a, .inr (1, [.ref t, .ref f1, .ref f2, .ref on, .int (nI n), .int (nI N), .int (nI o), .long nm, .int (nI cd), .int (nI wt)])), (t, .inl (g.2.1, 30, .inl (upd ft N y))), (f1, .inl (g.2.1, 30, .inl (upd fa N p1))), (f2, .inl (g.2.1, 30, .inl (upd fb N (if y = 5 then p1 else p2)))), (on, .inl (g.2.1, 6, .inl fo))] := hD
        refine lv_aload_n hx hb dX1_putGate_54 rfl (lv_at hl 1 rfl) ?_
        refine lv_iload hx hb dX1_putGate_55 (lv_at hl 0 rfl) ?_
        refine lv_iconst (v := 1) hx hb dX1_putGate_57 (by decide) ?_
        refine lv_iadd hx hb dX1_putGate_58 ?_
        refine hk_ti (nI (N + 1)) (nI_1 N) ?_
        refine va_put (D := D) (ci := 1) (v := .int (nI (N + 1))) (ty := .int) (C := RX1) (T := TX1) (N := 10) hx hb hts hi1 tyX1 tyX1_ok nmX1 hown hK hP hD hS 0 rfl rfl 5 (by decide) (hts (.fieldLink RX1 34 "SelfCheckingCircuit$Circuit" "nodes" "I") (by decide +kernel)) (fun _ h9 => h9) rfl (by decide +kernel) rfl rfl (Nat.le_of_ble_eq_true rfl) dX1_putGate_59 (fun H locs hP hD hS => ?_)
        have hP : va_P D vwCl [(a, .inr (1, [.ref t, .ref f1, .ref f2, .ref on, .int (nI n), .int (nI (N + 1)), .int (nI o), .long nm, .int (nI cd), .int (nI wt)])), (t, .inl (g.2.1, 30, .inl (upd ft N y))), (f1, .inl (g.2.1, 30, .inl (upd fa N p1))), (f2, .inl (g.2.1, 30, .inl (upd fb N (if y = 5 then p1 else p2)))), (on, .inl (g.2.1, 6, .inl fo))] H := hP
        have hD : va_D A [(a, .inr (1, [.ref t, .ref f1, .ref f2, .ref on, .int (nI n), .int (nI (N + 1)), .int (nI o), .long nm, .int (nI cd), .int (nI wt)])), (t, .inl (g.2.1, 30, .inl (upd ft N y))), (f1, .inl (g.2.1, 30, .inl (upd fa N p1))), (f2, .inl (g.2.1, 30, .inl (upd fb N (if y = 5 then p1 else p2)))), (on, .inl (g.2.1, 6, .inl fo))] := hD
        refine lv_iload hx hb dX1_putGate_62 (lv_at hl 0 rfl) ?_
        have hP9 := hP.sub (ws' := [(a, .inr (1, [.ref t, .ref f1, .ref f2, .ref on, .int (nI n), .int (nI (N + 1)), .int (nI o), .long nm, .int (nI cd), .int (nI wt)])), (t, .inl (g.2.1, 30, .inl (upd ft N y))), (f1, .inl (g.2.1, 30, .inl (upd fa N p1))), (f2, .inl (g.2.1, 30, .inl (upd fb N (if y = 5 then p1 else p2)))), (on, .inl (g.2.1, 6, .inl fo))]) [0, 1, 2, 3, 4] rfl
        have hD9 := hD.sub (ws' := [(a, .inr (1, [.ref t, .ref f1, .ref f2, .ref on, .int (nI n), .int (nI (N + 1)), .int (nI o), .long nm, .int (nI cd), .int (nI wt)])), (t, .inl (g.2.1, 30, .inl (upd ft N y))), (f1, .inl (g.2.1, 30, .inl (upd fa N p1))), (f2, .inl (g.2.1, 30, .inl (upd fb N (if y = 5 then p1 else p2)))), (on, .inl (g.2.1, 6, .inl fo))]) [0, 1, 2, 3, 4] (by decide) rfl
        exact W.iret (v := nI N) hx hb hr (fun t ht hW => ⟨⟨_, (), rfl, rfl, by rw [ht]; exact hP9, hD9⟩, hS.F ht⟩) hS.2.2 dX1_putGate_64
      · have c_3h : y = (5 : Int32) := c_3
        refine lv_iload_n hx hb dX1_putGate_48 rfl (lv_at hl 3 rfl) ?_
        refine lv_goto (tgt := 53) hx hb dX1_putGate_49 (by decide) ?_
        refine hk_ti (if y = 5 then p1 else p2) (by rw [if_pos c_3]) ?_
        refine va_iast hx hb hK hP hD hS 3 1 rfl rfl (vp_in_nI (N := 30) hN (by decide)) dX1_putGate_53 (fun H locs hP hD hS => ?_)
        rw [show (nI N).toNatClampNeg = N from nI_clamp (by omega)] at hP hD
        have hP : va_P D vwCl [(a, .inr (1, [.ref t, .ref f1, .ref f2, .ref on, .int (nI n), .int (nI N), .int (nI o), .long nm, .int (nI cd), .int (nI wt)])), (t, .inl (g.2.1, 30, .inl (upd ft N y))), (f1, .inl (g.2.1, 30, .inl (upd fa N p1))), (f2, .inl (g.2.1, 30, .inl (upd fb N (if y = 5 then p1 else p2)))), (on, .inl (g.2.1, 6, .inl fo))] H := hP
        have hD : va_D A [(a, .inr (1, [.ref t, .ref f1, .ref f2, .ref on, .int (nI n), .int (nI N), .int (nI o), .long nm, .int (nI cd), .int (nI wt)])), (t, .inl (g.2.1, 30, .inl (upd ft N y))), (f1, .inl (g.2.1, 30, .inl (upd fa N p1))), (f2, .inl (g.2.1, 30, .inl (upd fb N (if y = 5 then p1 else p2)))), (on, .inl (g.2.1, 6, .inl fo))] := hD
        refine lv_aload_n hx hb dX1_putGate_54 rfl (lv_at hl 1 rfl) ?_
        refine lv_iload hx hb dX1_putGate_55 (lv_at hl 0 rfl) ?_
        refine lv_iconst (v := 1) hx hb dX1_putGate_57 (by decide) ?_
        refine lv_iadd hx hb dX1_putGate_58 ?_
        refine hk_ti (nI (N + 1)) (nI_1 N) ?_
        refine va_put (D := D) (ci := 1) (v := .int (nI (N + 1))) (ty := .int) (C := RX1) (T := TX1) (N := 10) hx hb hts hi1 tyX1 tyX1_ok nmX1 hown hK hP hD hS 0 rfl rfl 5 (by decide) (hts (.fieldLink RX1 34 "SelfCheckingCircuit$Circuit" "nodes" "I") (by decide +kernel)) (fun _ h9 => h9) rfl (by decide +kernel) rfl rfl (Nat.le_of_ble_eq_true rfl) dX1_putGate_59 (fun H locs hP hD hS => ?_)
        have hP : va_P D vwCl [(a, .inr (1, [.ref t, .ref f1, .ref f2, .ref on, .int (nI n), .int (nI (N + 1)), .int (nI o), .long nm, .int (nI cd), .int (nI wt)])), (t, .inl (g.2.1, 30, .inl (upd ft N y))), (f1, .inl (g.2.1, 30, .inl (upd fa N p1))), (f2, .inl (g.2.1, 30, .inl (upd fb N (if y = 5 then p1 else p2)))), (on, .inl (g.2.1, 6, .inl fo))] H := hP
        have hD : va_D A [(a, .inr (1, [.ref t, .ref f1, .ref f2, .ref on, .int (nI n), .int (nI (N + 1)), .int (nI o), .long nm, .int (nI cd), .int (nI wt)])), (t, .inl (g.2.1, 30, .inl (upd ft N y))), (f1, .inl (g.2.1, 30, .inl (upd fa N p1))), (f2, .inl (g.2.1, 30, .inl (upd fb N (if y = 5 then p1 else p2)))), (on, .inl (g.2.1, 6, .inl fo))] := hD
        refine lv_iload hx hb dX1_putGate_62 (lv_at hl 0 rfl) ?_
        have hP9 := hP.sub (ws' := [(a, .inr (1, [.ref t, .ref f1, .ref f2, .ref on, .int (nI n), .int (nI (N + 1)), .int (nI o), .long nm, .int (nI cd), .int (nI wt)])), (t, .inl (g.2.1, 30, .inl (upd ft N y))), (f1, .inl (g.2.1, 30, .inl (upd fa N p1))), (f2, .inl (g.2.1, 30, .inl (upd fb N (if y = 5 then p1 else p2)))), (on, .inl (g.2.1, 6, .inl fo))]) [0, 1, 2, 3, 4] rfl
        have hD9 := hD.sub (ws' := [(a, .inr (1, [.ref t, .ref f1, .ref f2, .ref on, .int (nI n), .int (nI (N + 1)), .int (nI o), .long nm, .int (nI cd), .int (nI wt)])), (t, .inl (g.2.1, 30, .inl (upd ft N y))), (f1, .inl (g.2.1, 30, .inl (upd fa N p1))), (f2, .inl (g.2.1, 30, .inl (upd fb N (if y = 5 then p1 else p2)))), (on, .inl (g.2.1, 6, .inl fo))]) [0, 1, 2, 3, 4] (by decide) rfl
        exact W.iret (v := nI N) hx hb hr (fun t ht hW => ⟨⟨_, (), rfl, rfl, by rw [ht]; exact hP9, hD9⟩, hS.F ht⟩) hS.2.2 dX1_putGate_64
    · have c_2h : ¬ nI N < (30 : Int32) := c_2
      exact absurd (nI_lt (b := 30) hN (by decide)) c_2
set_option maxHeartbeats 4000000 in
set_option maxRecDepth 100000 in
theorem c1_putOutput (l : Launch) (D : va_G) (g : hk_G) (ti : Nat) (sz : Nat) (a : Nat) (t : Nat) (f1 : Nat) (f2 : Nat) (on : Nat) (ft : Nat → Int32) (fa : Nat → Int32) (fb : Nat → Int32) (fo : Nat → Int32) (n : Nat) (N : Nat) (o : Nat) (nm : Int64) (cd : Nat) (wt : Nat) (v : Int32) (ho : o < 6) : Met l yX1_putOutput wsX1_putOutput ({ frames := 0, cells := 0, slots := 0, locals := 0 }) (va_Pc [.ref a, .int v] (hk_In D g ti [(a, .inr (1, [.ref t, .ref f1, .ref f2, .ref on, .int (nI n), .int (nI N), .int (nI o), .long nm, .int (nI cd), .int (nI wt)])), (t, .inl (g.2.1, 30, .inl ft)), (f1, .inl (g.2.1, 30, .inl fa)), (f2, .inl (g.2.1, 30, .inl fb)), (on, .inl (g.2.1, 6, .inl fo))] sz)) (va_Qv (S := Unit) (fun _ => True) (fun u => hk_Out D (va_A [(a, .inr (1, [.ref t, .ref f1, .ref f2, .ref on, .int (nI n), .int (nI N), .int (nI o), .long nm, .int (nI cd), .int (nI wt)])), (t, .inl (g.2.1, 30, .inl ft)), (f1, .inl (g.2.1, 30, .inl fa)), (f2, .inl (g.2.1, 30, .inl fb)), (on, .inl (g.2.1, 6, .inl fo))] sz) (match u with | _ => [(a, .inr (1, [.ref t, .ref f1, .ref f2, .ref on, .int (nI n), .int (nI N), .int (nI (o + 1)), .long nm, .int (nI cd), .int (nI wt)])), (t, .inl (g.2.1, 30, .inl ft)), (f1, .inl (g.2.1, 30, .inl fa)), (f2, .inl (g.2.1, 30, .inl fb)), (on, .inl (g.2.1, 6, .inl (upd fo o v)))])) (va_A [(a, .inr (1, [.ref t, .ref f1, .ref f2, .ref on, .int (nI n), .int (nI N), .int (nI o), .long nm, .int (nI cd), .int (nI wt)])), (t, .inl (g.2.1, 30, .inl ft)), (f1, .inl (g.2.1, 30, .inl fa)), (f2, .inl (g.2.1, 30, .inl fb)), (on, .inl (g.2.1, 6, .inl fo))] sz)) 0 0 (va_A [(a, .inr (1, [.ref t, .ref f1, .ref f2, .ref on, .int (nI n), .int (nI N), .int (nI o), .long nm, .int (nI cd), .int (nI wt)])), (t, .inl (g.2.1, 30, .inl ft)), (f1, .inl (g.2.1, 30, .inl fa)), (f2, .inl (g.2.1, 30, .inl fb)), (on, .inl (g.2.1, 6, .inl fo))] sz) := by
  refine Met.ofW (cc := cX1_putOutput) (maxL := 2) (ret := none) (by decide) rfl ?_
  intro p e s m args below meth c s₁ B hml hv
  obtain ⟨rfl, hsz, hP, hD0, hE⟩ := hv
  have hx := B.exec
  have hb := B.bytes
  have hr := B.returns
  have hts := atoms_spec (ws := wsX1_putOutput) B.pre
  have hown : s.vm.findClass RX1 = some m.cls := findClass_of_methodNamed B.named
  have hlocks := B.notSynchronized
  have hK := hE.1
  have hi1 : ∀ w ∈ wsX10, w ∈ wsX1_putOutput := fun w h => List.mem_cons_of_mem _ (List.mem_append_right _ h)
  subst hsz
  have hD := hD0.self (sz := s.heap.size)
  generalize hAe : va_A [(a, .inr (1, [.ref t, .ref f1, .ref f2, .ref on, .int (nI n), .int (nI N), .int (nI o), .long nm, .int (nI cd), .int (nI wt)])), (t, .inl (g.2.1, 30, .inl ft)), (f1, .inl (g.2.1, 30, .inl fa)), (f2, .inl (g.2.1, 30, .inl fb)), (on, .inl (g.2.1, 6, .inl fo))] s.heap.size = A at hD hE ⊢
  have hA : ∀ q : Nat, s.heap.size ≤ q → A q := fun q h => by rw [← hAe]; exact Or.inr h
  have hS : va_S A s.heap s.heap [] := va_S.rf
  have hl := lv_entry ([.ref a, .int v]) (n := 2) (Nat.le_of_ble_eq_true rfl)
  rw [lg_entry_eq]
  generalize (lg_sl ([.ref a, .int v]) ++ List.replicate (2 - (lg_sl ([.ref a, .int v])).length) Slot.unset).toArray = ls at hl ⊢
  have hl : lv_has ls 2 [(0, .ref a), (1, .int v)] := hl
  refine lv_aload_n hx hb dX1_putOutput_0 rfl (lv_at hl 0 rfl) ?_
  refine va_get (D := D) (ci := 1) (v := .int (nI o)) (C := RX1) (T := TX1) (N := 10) hx hb hts hi1 hown hK hP 0 rfl rfl 6 (by decide) (hts (.fieldLink RX1 37 "SelfCheckingCircuit$Circuit" "outputs" "I") (by decide +kernel)) (fun _ h9 => h9) rfl dX1_putOutput_1 ?_
  refine lv_if_lt (tgt := 36) hx hb dX1_putOutput_4 (by decide) (fun c_1 => ?_) (fun c_1 => ?_)
  · have c_1h : nI o < (0 : Int32) := c_1
    exact absurd c_1 (nI_pos (by omega))
  · have c_1h : ¬ nI o < (0 : Int32) := c_1
    refine lv_aload_n hx hb dX1_putOutput_7 rfl (lv_at hl 0 rfl) ?_
    refine va_get (D := D) (ci := 1) (v := .int (nI o)) (C := RX1) (T := TX1) (N := 10) hx hb hts hi1 hown hK hP 0 rfl rfl 6 (by decide) (hts (.fieldLink RX1 37 "SelfCheckingCircuit$Circuit" "outputs" "I") (by decide +kernel)) (fun _ h9 => h9) rfl dX1_putOutput_8 ?_
    refine lv_bipush (v := 6) hx hb dX1_putOutput_11 (by decide) ?_
    refine lv_icmp_ge (tgt := 36) hx hb dX1_putOutput_13 (by decide) (fun c_2 => ?_) (fun c_2 => ?_)
    · have c_2h : (6 : Int32) ≤ nI o := c_2
      exact absurd c_2 (nI_ge ho (by decide))
    · have c_2h : ¬ (6 : Int32) ≤ nI o := c_2
      refine lv_aload_n hx hb dX1_putOutput_16 rfl (lv_at hl 0 rfl) ?_
      refine va_get (D := D) (ci := 1) (v := .ref on) (C := RX1) (T := TX1) (N := 10) hx hb hts hi1 hown hK hP 0 rfl rfl 3 (by decide) (hts (.fieldLink RX1 21 "SelfCheckingCircuit$Circuit" "outputNodes" "[I") (by decide +kernel)) (fun _ h9 => h9) rfl dX1_putOutput_17 ?_
      refine lv_aload_n hx hb dX1_putOutput_20 rfl (lv_at hl 0 rfl) ?_
      refine va_get (D := D) (ci := 1) (v := .int (nI o)) (C := RX1) (T := TX1) (N := 10) hx hb hts hi1 hown hK hP 0 rfl rfl 6 (by decide) (hts (.fieldLink RX1 37 "SelfCheckingCircuit$Circuit" "outputs" "I") (by decide +kernel)) (fun _ h9 => h9) rfl dX1_putOutput_21 ?_
      refine lv_iload_n hx hb dX1_putOutput_24 rfl (lv_at hl 1 rfl) ?_
      refine va_iast hx hb hK hP hD hS 4 1 rfl rfl (vp_in_nI (N := 6) ho (by decide)) dX1_putOutput_25 (fun H locs hP hD hS => ?_)
      rw [show (nI o).toNatClampNeg = o from nI_clamp (by omega)] at hP hD
      have hP : va_P D vwCl [(a, .inr (1, [.ref t, .ref f1, .ref f2, .ref on, .int (nI n), .int (nI N), .int (nI o), .long nm, .int (nI cd), .int (nI wt)])), (t, .inl (g.2.1, 30, .inl ft)), (f1, .inl (g.2.1, 30, .inl fa)), (f2, .inl (g.2.1, 30, .inl fb)), (on, .inl (g.2.1, 6, .inl (upd fo o v)))] H := hP
      have hD : va_D A [(a, .inr (1, [.ref t, .ref f1, .ref f2, .ref on, .int (nI n), .int (nI N), .int (nI o), .long nm, .int (nI cd), .int (nI wt)])), (t, .inl (g.2.1, 30, .inl ft)), (f1, .inl (g.2.1, 30, .inl fa)), (f2, .inl (g.2.1, 30, .inl fb)), (on, .inl (g.2.1, 6, .inl (upd fo o v)))] := hD
      refine lv_aload_n hx hb dX1_putOutput_26 rfl (lv_at hl 0 rfl) ?_
      refine lv_dup hx hb dX1_putOutput_27 rfl ?_
      refine va_get (D := D) (ci := 1) (v := .int (nI o)) (C := RX1) (T := TX1) (N := 10) hx hb hts hi1 hown hK hP 0 rfl rfl 6 (by decide) (hts (.fieldLink RX1 37 "SelfCheckingCircuit$Circuit" "outputs" "I") (by decide +kernel)) (fun _ h9 => h9) rfl dX1_putOutput_28 ?_
      refine lv_iconst (v := 1) hx hb dX1_putOutput_31 (by decide) ?_
      refine lv_iadd hx hb dX1_putOutput_32 ?_
      refine hk_ti (nI (o + 1)) (nI_1 o) ?_
      refine va_put (D := D) (ci := 1) (v := .int (nI (o + 1))) (ty := .int) (C := RX1) (T := TX1) (N := 10) hx hb hts hi1 tyX1 tyX1_ok nmX1 hown hK hP hD hS 0 rfl rfl 6 (by decide) (hts (.fieldLink RX1 37 "SelfCheckingCircuit$Circuit" "outputs" "I") (by decide +kernel)) (fun _ h9 => h9) rfl (by decide +kernel) rfl rfl (Nat.le_of_ble_eq_true rfl) dX1_putOutput_33 (fun H locs hP hD hS => ?_)
      have hP : va_P D vwCl [(a, .inr (1, [.ref t, .ref f1, .ref f2, .ref on, .int (nI n), .int (nI N), .int (nI (o + 1)), .long nm, .int (nI cd), .int (nI wt)])), (t, .inl (g.2.1, 30, .inl ft)), (f1, .inl (g.2.1, 30, .inl fa)), (f2, .inl (g.2.1, 30, .inl fb)), (on, .inl (g.2.1, 6, .inl (upd fo o v)))] H := hP
      have hD : va_D A [(a, .inr (1, [.ref t, .ref f1, .ref f2, .ref on, .int (nI n), .int (nI N), .int (nI (o + 1)), .long nm, .int (nI cd), .int (nI wt)])), (t, .inl (g.2.1, 30, .inl ft)), (f1, .inl (g.2.1, 30, .inl fa)), (f2, .inl (g.2.1, 30, .inl fb)), (on, .inl (g.2.1, 6, .inl (upd fo o v)))] := hD
      have hP9 := hP.sub (ws' := [(a, .inr (1, [.ref t, .ref f1, .ref f2, .ref on, .int (nI n), .int (nI N), .int (nI (o + 1)), .long nm, .int (nI cd), .int (nI wt)])), (t, .inl (g.2.1, 30, .inl ft)), (f1, .inl (g.2.1, 30, .inl fa)), (f2, .inl (g.2.1, 30, .inl fb)), (on, .inl (g.2.1, 6, .inl (upd fo o v)))]) [0, 1, 2, 3, 4] rfl
      have hD9 := hD.sub (ws' := [(a, .inr (1, [.ref t, .ref f1, .ref f2, .ref on, .int (nI n), .int (nI N), .int (nI (o + 1)), .long nm, .int (nI cd), .int (nI wt)])), (t, .inl (g.2.1, 30, .inl ft)), (f1, .inl (g.2.1, 30, .inl fa)), (f2, .inl (g.2.1, 30, .inl fb)), (on, .inl (g.2.1, 6, .inl (upd fo o v)))]) [0, 1, 2, 3, 4] (by decide) rfl
      exact W.vret hx hb hr (fun t ht hW => ⟨⟨(), rfl, trivial, by rw [ht]; exact hP9, hD9⟩, hS.F ht⟩) hS.2.2 dX1_putOutput_36
set_option maxHeartbeats 4000000 in
set_option maxRecDepth 100000 in
theorem c1_begin (l : Launch) (D : va_G) (g : hk_G) (ti : Nat) (sz : Nat) (a : Nat) (t : Nat) (f1 : Nat) (f2 : Nat) (on : Nat) (ft : Nat → Int32) (fa : Nat → Int32) (fb : Nat → Int32) (fo : Nat → Int32) (ni : Int32) (nn : Int32) (no : Int32) (nm : Int64) (cd : Nat) (wt : Nat) (k : Nat) (hk : k ≤ 6) : Met l yX1_begin wsX1_begin ({ frames := 0, cells := 0, slots := 0, locals := 0 }) (va_Pc [.ref a, .int (nI k)] (hk_In D g ti [(a, .inr (1, [.ref t, .ref f1, .ref f2, .ref on, .int ni, .int nn, .int no, .long nm, .int (nI cd), .int (nI wt)])), (t, .inl (g.2.1, 30, .inl ft)), (f1, .inl (g.2.1, 30, .inl fa)), (f2, .inl (g.2.1, 30, .inl fb)), (on, .inl (g.2.1, 6, .inl fo))] sz)) (va_Qv (S := Nat → Int32) (fun f' => ∀ j, j < k → f' j = 6) (fun u => hk_Out D (va_A [(a, .inr (1, [.ref t, .ref f1, .ref f2, .ref on, .int ni, .int nn, .int no, .long nm, .int (nI cd), .int (nI wt)])), (t, .inl (g.2.1, 30, .inl ft)), (f1, .inl (g.2.1, 30, .inl fa)), (f2, .inl (g.2.1, 30, .inl fb)), (on, .inl (g.2.1, 6, .inl fo))] sz) (match u with | f' => [(a, .inr (1, [.ref t, .ref f1, .ref f2, .ref on, .int (nI k), .int (nI k), .int (nI 0), .long 0, .int (nI cd), .int (nI wt)])), (t, .inl (g.2.1, 30, .inl f')), (f1, .inl (g.2.1, 30, .inl fa)), (f2, .inl (g.2.1, 30, .inl fb)), (on, .inl (g.2.1, 6, .inl fo))])) (va_A [(a, .inr (1, [.ref t, .ref f1, .ref f2, .ref on, .int ni, .int nn, .int no, .long nm, .int (nI cd), .int (nI wt)])), (t, .inl (g.2.1, 30, .inl ft)), (f1, .inl (g.2.1, 30, .inl fa)), (f2, .inl (g.2.1, 30, .inl fb)), (on, .inl (g.2.1, 6, .inl fo))] sz)) 0 0 (va_A [(a, .inr (1, [.ref t, .ref f1, .ref f2, .ref on, .int ni, .int nn, .int no, .long nm, .int (nI cd), .int (nI wt)])), (t, .inl (g.2.1, 30, .inl ft)), (f1, .inl (g.2.1, 30, .inl fa)), (f2, .inl (g.2.1, 30, .inl fb)), (on, .inl (g.2.1, 6, .inl fo))] sz) := by
  refine Met.ofW (cc := cX1_begin) (maxL := 3) (ret := none) (by decide) rfl ?_
  intro p e s m args below meth c s₁ B hml hv
  obtain ⟨rfl, hsz, hP, hD0, hE⟩ := hv
  have hx := B.exec
  have hb := B.bytes
  have hr := B.returns
  have hts := atoms_spec (ws := wsX1_begin) B.pre
  have hown : s.vm.findClass RX1 = some m.cls := findClass_of_methodNamed B.named
  have hlocks := B.notSynchronized
  have hK := hE.1
  have hi1 : ∀ w ∈ wsX10, w ∈ wsX1_begin := fun w h => List.mem_cons_of_mem _ (List.mem_append_right _ h)
  subst hsz
  have hD := hD0.self (sz := s.heap.size)
  generalize hAe : va_A [(a, .inr (1, [.ref t, .ref f1, .ref f2, .ref on, .int ni, .int nn, .int no, .long nm, .int (nI cd), .int (nI wt)])), (t, .inl (g.2.1, 30, .inl ft)), (f1, .inl (g.2.1, 30, .inl fa)), (f2, .inl (g.2.1, 30, .inl fb)), (on, .inl (g.2.1, 6, .inl fo))] s.heap.size = A at hD hE ⊢
  have hA : ∀ q : Nat, s.heap.size ≤ q → A q := fun q h => by rw [← hAe]; exact Or.inr h
  have hS : va_S A s.heap s.heap [] := va_S.rf
  have hl := lv_entry ([.ref a, .int (nI k)]) (n := 3) (Nat.le_of_ble_eq_true rfl)
  rw [lg_entry_eq]
  generalize (lg_sl ([.ref a, .int (nI k)]) ++ List.replicate (3 - (lg_sl ([.ref a, .int (nI k)])).length) Slot.unset).toArray = ls at hl ⊢
  have hl : lv_has ls 3 [(0, .ref a), (1, .int (nI k))] := hl
  refine lv_aload_n hx hb dX1_begin_0 rfl (lv_at hl 0 rfl) ?_
  refine lv_iload_n hx hb dX1_begin_1 rfl (lv_at hl 1 rfl) ?_
  refine va_put (D := D) (ci := 1) (v := .int (nI k)) (ty := .int) (C := RX1) (T := TX1) (N := 10) hx hb hts hi1 tyX1 tyX1_ok nmX1 hown hK hP hD hS 0 rfl rfl 4 (by decide) (hts (.fieldLink RX1 30 "SelfCheckingCircuit$Circuit" "inputs" "I") (by decide +kernel)) (fun _ h9 => h9) rfl (by decide +kernel) rfl rfl (Nat.le_of_ble_eq_true rfl) dX1_begin_2 (fun H locs hP hD hS => ?_)
  have hP : va_P D vwCl [(a, .inr (1, [.ref t, .ref f1, .ref f2, .ref on, .int (nI k), .int nn, .int no, .long nm, .int (nI cd), .int (nI wt)])), (t, .inl (g.2.1, 30, .inl ft)), (f1, .inl (g.2.1, 30, .inl fa)), (f2, .inl (g.2.1, 30, .inl fb)), (on, .inl (g.2.1, 6, .inl fo))] H := hP
  have hD : va_D A [(a, .inr (1, [.ref t, .ref f1, .ref f2, .ref on, .int (nI k), .int nn, .int no, .long nm, .int (nI cd), .int (nI wt)])), (t, .inl (g.2.1, 30, .inl ft)), (f1, .inl (g.2.1, 30, .inl fa)), (f2, .inl (g.2.1, 30, .inl fb)), (on, .inl (g.2.1, 6, .inl fo))] := hD
  refine lv_aload_n hx hb dX1_begin_5 rfl (lv_at hl 0 rfl) ?_
  refine lv_iload_n hx hb dX1_begin_6 rfl (lv_at hl 1 rfl) ?_
  refine va_put (D := D) (ci := 1) (v := .int (nI k)) (ty := .int) (C := RX1) (T := TX1) (N := 10) hx hb hts hi1 tyX1 tyX1_ok nmX1 hown hK hP hD hS 0 rfl rfl 5 (by decide) (hts (.fieldLink RX1 34 "SelfCheckingCircuit$Circuit" "nodes" "I") (by decide +kernel)) (fun _ h9 => h9) rfl (by decide +kernel) rfl rfl (Nat.le_of_ble_eq_true rfl) dX1_begin_7 (fun H locs hP hD hS => ?_)
  have hP : va_P D vwCl [(a, .inr (1, [.ref t, .ref f1, .ref f2, .ref on, .int (nI k), .int (nI k), .int no, .long nm, .int (nI cd), .int (nI wt)])), (t, .inl (g.2.1, 30, .inl ft)), (f1, .inl (g.2.1, 30, .inl fa)), (f2, .inl (g.2.1, 30, .inl fb)), (on, .inl (g.2.1, 6, .inl fo))] H := hP
  have hD : va_D A [(a, .inr (1, [.ref t, .ref f1, .ref f2, .ref on, .int (nI k), .int (nI k), .int no, .long nm, .int (nI cd), .int (nI wt)])), (t, .inl (g.2.1, 30, .inl ft)), (f1, .inl (g.2.1, 30, .inl fa)), (f2, .inl (g.2.1, 30, .inl fb)), (on, .inl (g.2.1, 6, .inl fo))] := hD
  refine lv_aload_n hx hb dX1_begin_10 rfl (lv_at hl 0 rfl) ?_
  refine lv_iconst (v := 0) hx hb dX1_begin_11 (by decide) ?_
  refine va_put (D := D) (ci := 1) (v := .int 0) (ty := .int) (C := RX1) (T := TX1) (N := 10) hx hb hts hi1 tyX1 tyX1_ok nmX1 hown hK hP hD hS 0 rfl rfl 6 (by decide) (hts (.fieldLink RX1 37 "SelfCheckingCircuit$Circuit" "outputs" "I") (by decide +kernel)) (fun _ h9 => h9) rfl (by decide +kernel) rfl rfl (Nat.le_of_ble_eq_true rfl) dX1_begin_12 (fun H locs hP hD hS => ?_)
  have hP : va_P D vwCl [(a, .inr (1, [.ref t, .ref f1, .ref f2, .ref on, .int (nI k), .int (nI k), .int 0, .long nm, .int (nI cd), .int (nI wt)])), (t, .inl (g.2.1, 30, .inl ft)), (f1, .inl (g.2.1, 30, .inl fa)), (f2, .inl (g.2.1, 30, .inl fb)), (on, .inl (g.2.1, 6, .inl fo))] H := hP
  have hD : va_D A [(a, .inr (1, [.ref t, .ref f1, .ref f2, .ref on, .int (nI k), .int (nI k), .int 0, .long nm, .int (nI cd), .int (nI wt)])), (t, .inl (g.2.1, 30, .inl ft)), (f1, .inl (g.2.1, 30, .inl fa)), (f2, .inl (g.2.1, 30, .inl fb)), (on, .inl (g.2.1, 6, .inl fo))] := hD
  refine lv_aload_n hx hb dX1_begin_15 rfl (lv_at hl 0 rfl) ?_
  refine lv_lconst (v := 0) hx hb dX1_begin_16 (by decide) ?_
  refine va_put (D := D) (ci := 1) (v := .long 0) (ty := .long) (C := RX1) (T := TX1) (N := 10) hx hb hts hi1 tyX1 tyX1_ok nmX1 hown hK hP hD hS 0 rfl rfl 7 (by decide) (hts (.fieldLink RX1 40 "SelfCheckingCircuit$Circuit" "normal" "J") (by decide +kernel)) (fun _ h9 => h9) rfl (by decide +kernel) rfl rfl (Nat.le_of_ble_eq_true rfl) dX1_begin_17 (fun H locs hP hD hS => ?_)
  have hP : va_P D vwCl [(a, .inr (1, [.ref t, .ref f1, .ref f2, .ref on, .int (nI k), .int (nI k), .int 0, .long 0, .int (nI cd), .int (nI wt)])), (t, .inl (g.2.1, 30, .inl ft)), (f1, .inl (g.2.1, 30, .inl fa)), (f2, .inl (g.2.1, 30, .inl fb)), (on, .inl (g.2.1, 6, .inl fo))] H := hP
  have hD : va_D A [(a, .inr (1, [.ref t, .ref f1, .ref f2, .ref on, .int (nI k), .int (nI k), .int 0, .long 0, .int (nI cd), .int (nI wt)])), (t, .inl (g.2.1, 30, .inl ft)), (f1, .inl (g.2.1, 30, .inl fa)), (f2, .inl (g.2.1, 30, .inl fb)), (on, .inl (g.2.1, 6, .inl fo))] := hD
  refine lv_iconst (v := 0) hx hb dX1_begin_20 (by decide) ?_
  refine lv_istore_n (lv' := [(2, .int 0), (0, .ref a), (1, .int (nI k))]) hx hb dX1_begin_21 rfl hl (by decide) rfl (fun ls hl => ?_)
  have loop22 : ∀ (n : Nat) (i : Nat) (f : Nat → Int32), (k - i) < n → (i ≤ k) → (∀ j, j < i → f j = 6) → ∀ (H : Heap) (locs : List Loc), va_P D vwCl [(a, .inr (1, [.ref t, .ref f1, .ref f2, .ref on, .int (nI k), .int (nI k), .int (nI 0), .long 0, .int (nI cd), .int (nI wt)])), (t, .inl (g.2.1, 30, .inl f)), (f1, .inl (g.2.1, 30, .inl fa)), (f2, .inl (g.2.1, 30, .inl fb)), (on, .inl (g.2.1, 6, .inl fo))] H → va_D A [(a, .inr (1, [.ref t, .ref f1, .ref f2, .ref on, .int (nI k), .int (nI k), .int (nI 0), .long 0, .int (nI cd), .int (nI wt)])), (t, .inl (g.2.1, 30, .inl f)), (f1, .inl (g.2.1, 30, .inl fa)), (f2, .inl (g.2.1, 30, .inl fb)), (on, .inl (g.2.1, 6, .inl fo))] → va_S A s.heap H locs → ∀ ls : Array Slot, lv_has ls 3 [(2, .int (nI i)), (0, .ref a), (1, .int (nI k))] → W p l e (headSpec wsX1_begin ({ frames := 0, cells := 0, slots := 0, locals := 0 })).room s m ([.ref a, .int (nI k)] : List Value).toArray below meth c H locs 0 0 (MQ below (va_Qv (S := Nat → Int32) (fun f' => ∀ j, j < k → f' j = 6) (fun u => hk_Out D A (match u with | f' => [(a, .inr (1, [.ref t, .ref f1, .ref f2, .ref on, .int (nI k), .int (nI k), .int (nI 0), .long 0, .int (nI cd), .int (nI wt)])), (t, .inl (g.2.1, 30, .inl f')), (f1, .inl (g.2.1, 30, .inl fa)), (f2, .inl (g.2.1, 30, .inl fb)), (on, .inl (g.2.1, 6, .inl fo))])) A) ([.ref a, .int (nI k)] : List Value).toArray s 0 0 A) (F0 m 22 ls []) := by
    intro n
    induction n with
    | zero => intro i f hm; exact absurd hm (Nat.not_lt_zero _)
    | succ n ih_22 =>
      intro i f hm_22 hi hf H locs hP hD hS ls hl
      refine lv_iload_n hx hb dX1_begin_22 rfl (lv_at hl 0 rfl) ?_
      refine lv_iload_n hx hb dX1_begin_23 rfl (lv_at hl 2 rfl) ?_
      refine lv_icmp_ge (tgt := 47) hx hb dX1_begin_24 (by decide) (fun c_1 => ?_) (fun c_1 => ?_)
      · have c_1h : nI k ≤ nI i := c_1
        have hP9 := hP.sub (ws' := [(a, .inr (1, [.ref t, .ref f1, .ref f2, .ref on, .int (nI k), .int (nI k), .int (nI 0), .long 0, .int (nI cd), .int (nI wt)])), (t, .inl (g.2.1, 30, .inl f)), (f1, .inl (g.2.1, 30, .inl fa)), (f2, .inl (g.2.1, 30, .inl fb)), (on, .inl (g.2.1, 6, .inl fo))]) [0, 1, 2, 3, 4] rfl
        have hD9 := hD.sub (ws' := [(a, .inr (1, [.ref t, .ref f1, .ref f2, .ref on, .int (nI k), .int (nI k), .int (nI 0), .long 0, .int (nI cd), .int (nI wt)])), (t, .inl (g.2.1, 30, .inl f)), (f1, .inl (g.2.1, 30, .inl fa)), (f2, .inl (g.2.1, 30, .inl fb)), (on, .inl (g.2.1, 6, .inl fo))]) [0, 1, 2, 3, 4] (by decide) rfl
        exact W.vret hx hb hr (fun t ht hW => ⟨⟨f, rfl, fun j hj => hf j (by have := hk_ge k c_1; omega), by rw [ht]; exact hP9, hD9⟩, hS.F ht⟩) hS.2.2 dX1_begin_47
      · have c_1h : ¬ nI k ≤ nI i := c_1
        refine lv_iload_n hx hb dX1_begin_27 rfl (lv_at hl 0 rfl) ?_
        refine lv_bipush (v := 30) hx hb dX1_begin_28 (by decide) ?_
        refine lv_icmp_ge (tgt := 47) hx hb dX1_begin_30 (by decide) (fun c_2 => ?_) (fun c_2 => ?_)
        · have c_2h : (30 : Int32) ≤ nI i := c_2
          exact absurd (hk_ge 30 c_2) (by omega)
        · have c_2h : ¬ (30 : Int32) ≤ nI i := c_2
          refine lv_aload_n hx hb dX1_begin_33 rfl (lv_at hl 1 rfl) ?_
          refine va_get (D := D) (ci := 1) (v := .ref t) (C := RX1) (T := TX1) (N := 10) hx hb hts hi1 hown hK hP 0 rfl rfl 0 (by decide) (hts (.fieldLink RX1 9 "SelfCheckingCircuit$Circuit" "types" "[I") (by decide +kernel)) (fun _ h9 => h9) rfl dX1_begin_34 ?_
          refine lv_iload_n hx hb dX1_begin_37 rfl (lv_at hl 0 rfl) ?_
          refine lv_bipush (v := 6) hx hb dX1_begin_38 (by decide) ?_
          refine va_iast hx hb hK hP hD hS 1 1 rfl rfl (vp_in_nI (N := 30) (by have := hk_nge k c_1; omega) (by decide)) dX1_begin_40 (fun H locs hP hD hS => ?_)
          rw [show (nI i).toNatClampNeg = i from nI_clamp (by have := hk_nge k c_1; omega)] at hP hD
          have hP : va_P D vwCl [(a, .inr (1, [.ref t, .ref f1, .ref f2, .ref on, .int (nI k), .int (nI k), .int (nI 0), .long 0, .int (nI cd), .int (nI wt)])), (t, .inl (g.2.1, 30, .inl (upd f i 6))), (f1, .inl (g.2.1, 30, .inl fa)), (f2, .inl (g.2.1, 30, .inl fb)), (on, .inl (g.2.1, 6, .inl fo))] H := hP
          have hD : va_D A [(a, .inr (1, [.ref t, .ref f1, .ref f2, .ref on, .int (nI k), .int (nI k), .int (nI 0), .long 0, .int (nI cd), .int (nI wt)])), (t, .inl (g.2.1, 30, .inl (upd f i 6))), (f1, .inl (g.2.1, 30, .inl fa)), (f2, .inl (g.2.1, 30, .inl fb)), (on, .inl (g.2.1, 6, .inl fo))] := hD
          refine lv_iinc (v := (nI (i + 1))) (lv' := [(2, .int (nI (i + 1))), (0, .ref a), (1, .int (nI k))]) hx hb dX1_begin_41 hl (k := 0) rfl (nI_1 i) (by decide) rfl (fun ls hl => ?_)
          refine lv_goto (tgt := 22) hx hb dX1_begin_44 (by decide) ?_
          have hlt : i < k := hk_nge k c_1
          exact ih_22 (i + 1) (upd f i 6) (by omega) (by omega) (hk_up (fun _ v => v = 6) hf rfl) _ _ hP hD hS _ (lv_sub hl [0, 1, 2] rfl)
  exact loop22 _ 0 ft (Nat.lt_succ_self _) (Nat.zero_le _) (fun _ h => absurd h (Nat.not_lt_zero _)) _ _ hP hD hS _ (lv_sub hl [0, 1, 2] rfl)
theorem hk_cp {f g : Nat → Int32} {z n : Int32} {j : Nat} (h : j < n.toNatClampNeg) (hz : z.toNatClampNeg = 0 := by rfl) : va_cpy f g z.toNatClampNeg z.toNatClampNeg n.toNatClampNeg j = f j := by
  rw [hz]; unfold va_cpy; rw [if_pos ⟨by omega, by omega⟩]; congr 1; omega
set_option maxHeartbeats 4000000 in
set_option maxRecDepth 100000 in
theorem c1_copyFrom (l : Launch) (D : va_G) (g : hk_G) (ti : Nat) (sz : Nat) (a : Nat) (t : Nat) (f1 : Nat) (f2 : Nat) (on : Nat) (ft : Nat → Int32) (fa : Nat → Int32) (fb : Nat → Int32) (fo : Nat → Int32) (ni : Int32) (nn : Int32) (no : Int32) (nm : Int64) (cd : Int32) (wt : Int32) (ba : Nat) (bt : Nat) (bf1 : Nat) (bf2 : Nat) (bon : Nat) (bft : Nat → Int32) (bfa : Nat → Int32) (bfb : Nat → Int32) (bfo : Nat → Int32) (bni : Int32) (bnn : Int32) (bno : Int32) (bnm : Int64) (bcd : Int32) (bwt : Int32)  : Met l yX1_copyFrom wsX1_copyFrom ({ frames := 1, cells := 0, slots := 0, locals := 40 }) (va_Pc [.ref a, .ref ba] (hk_In D g ti [(a, .inr (1, [.ref t, .ref f1, .ref f2, .ref on, .int ni, .int nn, .int no, .long nm, .int cd, .int wt])), (t, .inl (g.2.1, 30, .inl ft)), (f1, .inl (g.2.1, 30, .inl fa)), (f2, .inl (g.2.1, 30, .inl fb)), (on, .inl (g.2.1, 6, .inl fo)), (ba, .inr (1, [.ref bt, .ref bf1, .ref bf2, .ref bon, .int bni, .int bnn, .int bno, .long bnm, .int bcd, .int bwt])), (bt, .inl (g.2.1, 30, .inl bft)), (bf1, .inl (g.2.1, 30, .inl bfa)), (bf2, .inl (g.2.1, 30, .inl bfb)), (bon, .inl (g.2.1, 6, .inl bfo))] sz)) (va_Qv (S := (Nat → Int32) × (Nat → Int32) × (Nat → Int32) × (Nat → Int32)) (fun u => (∀ j, j < 30 → u.1 j = bft j) ∧ (∀ j, j < 30 → u.2.1 j = bfa j) ∧ (∀ j, j < 30 → u.2.2.1 j = bfb j) ∧ (∀ j, j < 6 → u.2.2.2 j = bfo j)) (fun u => hk_Out D (va_A [(a, .inr (1, [.ref t, .ref f1, .ref f2, .ref on, .int ni, .int nn, .int no, .long nm, .int cd, .int wt])), (t, .inl (g.2.1, 30, .inl ft)), (f1, .inl (g.2.1, 30, .inl fa)), (f2, .inl (g.2.1, 30, .inl fb)), (on, .inl (g.2.1, 6, .inl fo)), (ba, .inr (1, [.ref bt, .ref bf1, .ref bf2, .ref bon, .int bni, .int bnn, .int bno, .long bnm, .int bcd, .int bwt])), (bt, .inl (g.2.1, 30, .inl bft)), (bf1, .inl (g.2.1, 30, .inl bfa)), (bf2, .inl (g.2.1, 30, .inl bfb)), (bon, .inl (g.2.1, 6, .inl bfo))] sz) (match u with | (g1, g2, g3, g4) => [(a, .inr (1, [.ref t, .ref f1, .ref f2, .ref on, .int bni, .int bnn, .int bno, .long bnm, .int bcd, .int bwt])), (t, .inl (g.2.1, 30, .inl g1)), (f1, .inl (g.2.1, 30, .inl g2)), (f2, .inl (g.2.1, 30, .inl g3)), (on, .inl (g.2.1, 6, .inl g4)), (ba, .inr (1, [.ref bt, .ref bf1, .ref bf2, .ref bon, .int bni, .int bnn, .int bno, .long bnm, .int bcd, .int bwt])), (bt, .inl (g.2.1, 30, .inl bft)), (bf1, .inl (g.2.1, 30, .inl bfa)), (bf2, .inl (g.2.1, 30, .inl bfb)), (bon, .inl (g.2.1, 6, .inl bfo))])) (va_A [(a, .inr (1, [.ref t, .ref f1, .ref f2, .ref on, .int ni, .int nn, .int no, .long nm, .int cd, .int wt])), (t, .inl (g.2.1, 30, .inl ft)), (f1, .inl (g.2.1, 30, .inl fa)), (f2, .inl (g.2.1, 30, .inl fb)), (on, .inl (g.2.1, 6, .inl fo)), (ba, .inr (1, [.ref bt, .ref bf1, .ref bf2, .ref bon, .int bni, .int bnn, .int bno, .long bnm, .int bcd, .int bwt])), (bt, .inl (g.2.1, 30, .inl bft)), (bf1, .inl (g.2.1, 30, .inl bfa)), (bf2, .inl (g.2.1, 30, .inl bfb)), (bon, .inl (g.2.1, 6, .inl bfo))] sz)) 0 0 (va_A [(a, .inr (1, [.ref t, .ref f1, .ref f2, .ref on, .int ni, .int nn, .int no, .long nm, .int cd, .int wt])), (t, .inl (g.2.1, 30, .inl ft)), (f1, .inl (g.2.1, 30, .inl fa)), (f2, .inl (g.2.1, 30, .inl fb)), (on, .inl (g.2.1, 6, .inl fo)), (ba, .inr (1, [.ref bt, .ref bf1, .ref bf2, .ref bon, .int bni, .int bnn, .int bno, .long bnm, .int bcd, .int bwt])), (bt, .inl (g.2.1, 30, .inl bft)), (bf1, .inl (g.2.1, 30, .inl bfa)), (bf2, .inl (g.2.1, 30, .inl bfb)), (bon, .inl (g.2.1, 6, .inl bfo))] sz) := by
  refine Met.ofW (cc := cX1_copyFrom) (maxL := 2) (ret := none) (by decide) rfl ?_
  intro p e s m args below meth c s₁ B hml hv
  obtain ⟨rfl, hsz, hP, hD0, hE⟩ := hv
  have hx := B.exec
  have hb := B.bytes
  have hr := B.returns
  have hts := atoms_spec (ws := wsX1_copyFrom) B.pre
  have hown : s.vm.findClass RX1 = some m.cls := findClass_of_methodNamed B.named
  have hlocks := B.notSynchronized
  have hK := hE.1
  have hi1 : ∀ w ∈ wsX10, w ∈ wsX1_copyFrom := fun w h => List.mem_cons_of_mem _ (List.mem_append_right _ h)
  subst hsz
  have hD := hD0.self (sz := s.heap.size)
  generalize hAe : va_A [(a, .inr (1, [.ref t, .ref f1, .ref f2, .ref on, .int ni, .int nn, .int no, .long nm, .int cd, .int wt])), (t, .inl (g.2.1, 30, .inl ft)), (f1, .inl (g.2.1, 30, .inl fa)), (f2, .inl (g.2.1, 30, .inl fb)), (on, .inl (g.2.1, 6, .inl fo)), (ba, .inr (1, [.ref bt, .ref bf1, .ref bf2, .ref bon, .int bni, .int bnn, .int bno, .long bnm, .int bcd, .int bwt])), (bt, .inl (g.2.1, 30, .inl bft)), (bf1, .inl (g.2.1, 30, .inl bfa)), (bf2, .inl (g.2.1, 30, .inl bfb)), (bon, .inl (g.2.1, 6, .inl bfo))] s.heap.size = A at hD hE ⊢
  have hA : ∀ q : Nat, s.heap.size ≤ q → A q := fun q h => by rw [← hAe]; exact Or.inr h
  have hS : va_S A s.heap s.heap [] := va_S.rf
  have hl := lv_entry ([.ref a, .ref ba]) (n := 2) (Nat.le_of_ble_eq_true rfl)
  rw [lg_entry_eq]
  generalize (lg_sl ([.ref a, .ref ba]) ++ List.replicate (2 - (lg_sl ([.ref a, .ref ba])).length) Slot.unset).toArray = ls at hl ⊢
  have hl : lv_has ls 2 [(0, .ref a), (1, .ref ba)] := hl
  refine lv_aload_n hx hb dX1_copyFrom_0 rfl (lv_at hl 1 rfl) ?_
  refine va_get (D := D) (ci := 1) (v := .ref bt) (C := RX1) (T := TX1) (N := 10) hx hb hts hi1 hown hK hP 5 rfl rfl 0 (by decide) (hts (.fieldLink RX1 9 "SelfCheckingCircuit$Circuit" "types" "[I") (by decide +kernel)) (fun _ h9 => h9) rfl dX1_copyFrom_1 ?_
  refine lv_iconst (v := 0) hx hb dX1_copyFrom_4 (by decide) ?_
  refine lv_aload_n hx hb dX1_copyFrom_5 rfl (lv_at hl 0 rfl) ?_
  refine va_get (D := D) (ci := 1) (v := .ref t) (C := RX1) (T := TX1) (N := 10) hx hb hts hi1 hown hK hP 0 rfl rfl 0 (by decide) (hts (.fieldLink RX1 9 "SelfCheckingCircuit$Circuit" "types" "[I") (by decide +kernel)) (fun _ h9 => h9) rfl dX1_copyFrom_6 ?_
  refine lv_iconst (v := 0) hx hb dX1_copyFrom_9 (by decide) ?_
  refine lv_bipush (v := 30) hx hb dX1_copyFrom_10 (by decide) ?_
  refine va_copyi hx hb (by rw [hml]; exact hl.1.symm) hown (hts (.methodLink RX1 24 arraycopyName) (by decide +kernel)) (hts (.native arraycopyName) (by decide +kernel)) (hts (.static arraycopyName) (by decide +kernel)) (hts (.initialized "java/lang/System") (by decide +kernel)) hK hP hD hS 6 1 1 1 rfl rfl rfl rfl rfl (by decide) (by decide) (by decide) (by decide) (by decide) (fun _ _ => rfl) (Nat.le_of_ble_eq_true rfl) (Nat.le_of_ble_eq_true rfl) dX1_copyFrom_12 (fun H locs hP hD hS => ?_)
  have hP : va_P D vwCl [(a, .inr (1, [.ref t, .ref f1, .ref f2, .ref on, .int ni, .int nn, .int no, .long nm, .int cd, .int wt])), (t, .inl (g.2.1, 30, .inl (va_cpy bft ft (0 : Int32).toNatClampNeg (0 : Int32).toNatClampNeg (30 : Int32).toNatClampNeg))), (f1, .inl (g.2.1, 30, .inl fa)), (f2, .inl (g.2.1, 30, .inl fb)), (on, .inl (g.2.1, 6, .inl fo)), (ba, .inr (1, [.ref bt, .ref bf1, .ref bf2, .ref bon, .int bni, .int bnn, .int bno, .long bnm, .int bcd, .int bwt])), (bt, .inl (g.2.1, 30, .inl bft)), (bf1, .inl (g.2.1, 30, .inl bfa)), (bf2, .inl (g.2.1, 30, .inl bfb)), (bon, .inl (g.2.1, 6, .inl bfo))] H := hP
  have hD : va_D A [(a, .inr (1, [.ref t, .ref f1, .ref f2, .ref on, .int ni, .int nn, .int no, .long nm, .int cd, .int wt])), (t, .inl (g.2.1, 30, .inl (va_cpy bft ft (0 : Int32).toNatClampNeg (0 : Int32).toNatClampNeg (30 : Int32).toNatClampNeg))), (f1, .inl (g.2.1, 30, .inl fa)), (f2, .inl (g.2.1, 30, .inl fb)), (on, .inl (g.2.1, 6, .inl fo)), (ba, .inr (1, [.ref bt, .ref bf1, .ref bf2, .ref bon, .int bni, .int bnn, .int bno, .long bnm, .int bcd, .int bwt])), (bt, .inl (g.2.1, 30, .inl bft)), (bf1, .inl (g.2.1, 30, .inl bfa)), (bf2, .inl (g.2.1, 30, .inl bfb)), (bon, .inl (g.2.1, 6, .inl bfo))] := hD
  refine lv_aload_n hx hb dX1_copyFrom_15 rfl (lv_at hl 1 rfl) ?_
  refine va_get (D := D) (ci := 1) (v := .ref bf1) (C := RX1) (T := TX1) (N := 10) hx hb hts hi1 hown hK hP 5 rfl rfl 1 (by decide) (hts (.fieldLink RX1 15 "SelfCheckingCircuit$Circuit" "firsts" "[I") (by decide +kernel)) (fun _ h9 => h9) rfl dX1_copyFrom_16 ?_
  refine lv_iconst (v := 0) hx hb dX1_copyFrom_19 (by decide) ?_
  refine lv_aload_n hx hb dX1_copyFrom_20 rfl (lv_at hl 0 rfl) ?_
  refine va_get (D := D) (ci := 1) (v := .ref f1) (C := RX1) (T := TX1) (N := 10) hx hb hts hi1 hown hK hP 0 rfl rfl 1 (by decide) (hts (.fieldLink RX1 15 "SelfCheckingCircuit$Circuit" "firsts" "[I") (by decide +kernel)) (fun _ h9 => h9) rfl dX1_copyFrom_21 ?_
  refine lv_iconst (v := 0) hx hb dX1_copyFrom_24 (by decide) ?_
  refine lv_bipush (v := 30) hx hb dX1_copyFrom_25 (by decide) ?_
  refine va_copyi hx hb (by rw [hml]; exact hl.1.symm) hown (hts (.methodLink RX1 24 arraycopyName) (by decide +kernel)) (hts (.native arraycopyName) (by decide +kernel)) (hts (.static arraycopyName) (by decide +kernel)) (hts (.initialized "java/lang/System") (by decide +kernel)) hK hP hD hS 7 2 1 1 rfl rfl rfl rfl rfl (by decide) (by decide) (by decide) (by decide) (by decide) (fun _ _ => rfl) (Nat.le_of_ble_eq_true rfl) (Nat.le_of_ble_eq_true rfl) dX1_copyFrom_27 (fun H locs hP hD hS => ?_)
  have hP : va_P D vwCl [(a, .inr (1, [.ref t, .ref f1, .ref f2, .ref on, .int ni, .int nn, .int no, .long nm, .int cd, .int wt])), (t, .inl (g.2.1, 30, .inl (va_cpy bft ft (0 : Int32).toNatClampNeg (0 : Int32).toNatClampNeg (30 : Int32).toNatClampNeg))), (f1, .inl (g.2.1, 30, .inl (va_cpy bfa fa (0 : Int32).toNatClampNeg (0 : Int32).toNatClampNeg (30 : Int32).toNatClampNeg))), (f2, .inl (g.2.1, 30, .inl fb)), (on, .inl (g.2.1, 6, .inl fo)), (ba, .inr (1, [.ref bt, .ref bf1, .ref bf2, .ref bon, .int bni, .int bnn, .int bno, .long bnm, .int bcd, .int bwt])), (bt, .inl (g.2.1, 30, .inl bft)), (bf1, .inl (g.2.1, 30, .inl bfa)), (bf2, .inl (g.2.1, 30, .inl bfb)), (bon, .inl (g.2.1, 6, .inl bfo))] H := hP
  have hD : va_D A [(a, .inr (1, [.ref t, .ref f1, .ref f2, .ref on, .int ni, .int nn, .int no, .long nm, .int cd, .int wt])), (t, .inl (g.2.1, 30, .inl (va_cpy bft ft (0 : Int32).toNatClampNeg (0 : Int32).toNatClampNeg (30 : Int32).toNatClampNeg))), (f1, .inl (g.2.1, 30, .inl (va_cpy bfa fa (0 : Int32).toNatClampNeg (0 : Int32).toNatClampNeg (30 : Int32).toNatClampNeg))), (f2, .inl (g.2.1, 30, .inl fb)), (on, .inl (g.2.1, 6, .inl fo)), (ba, .inr (1, [.ref bt, .ref bf1, .ref bf2, .ref bon, .int bni, .int bnn, .int bno, .long bnm, .int bcd, .int bwt])), (bt, .inl (g.2.1, 30, .inl bft)), (bf1, .inl (g.2.1, 30, .inl bfa)), (bf2, .inl (g.2.1, 30, .inl bfb)), (bon, .inl (g.2.1, 6, .inl bfo))] := hD
  refine lv_aload_n hx hb dX1_copyFrom_30 rfl (lv_at hl 1 rfl) ?_
  refine va_get (D := D) (ci := 1) (v := .ref bf2) (C := RX1) (T := TX1) (N := 10) hx hb hts hi1 hown hK hP 5 rfl rfl 2 (by decide) (hts (.fieldLink RX1 18 "SelfCheckingCircuit$Circuit" "seconds" "[I") (by decide +kernel)) (fun _ h9 => h9) rfl dX1_copyFrom_31 ?_
  refine lv_iconst (v := 0) hx hb dX1_copyFrom_34 (by decide) ?_
  refine lv_aload_n hx hb dX1_copyFrom_35 rfl (lv_at hl 0 rfl) ?_
  refine va_get (D := D) (ci := 1) (v := .ref f2) (C := RX1) (T := TX1) (N := 10) hx hb hts hi1 hown hK hP 0 rfl rfl 2 (by decide) (hts (.fieldLink RX1 18 "SelfCheckingCircuit$Circuit" "seconds" "[I") (by decide +kernel)) (fun _ h9 => h9) rfl dX1_copyFrom_36 ?_
  refine lv_iconst (v := 0) hx hb dX1_copyFrom_39 (by decide) ?_
  refine lv_bipush (v := 30) hx hb dX1_copyFrom_40 (by decide) ?_
  refine va_copyi hx hb (by rw [hml]; exact hl.1.symm) hown (hts (.methodLink RX1 24 arraycopyName) (by decide +kernel)) (hts (.native arraycopyName) (by decide +kernel)) (hts (.static arraycopyName) (by decide +kernel)) (hts (.initialized "java/lang/System") (by decide +kernel)) hK hP hD hS 8 3 1 1 rfl rfl rfl rfl rfl (by decide) (by decide) (by decide) (by decide) (by decide) (fun _ _ => rfl) (Nat.le_of_ble_eq_true rfl) (Nat.le_of_ble_eq_true rfl) dX1_copyFrom_42 (fun H locs hP hD hS => ?_)
  have hP : va_P D vwCl [(a, .inr (1, [.ref t, .ref f1, .ref f2, .ref on, .int ni, .int nn, .int no, .long nm, .int cd, .int wt])), (t, .inl (g.2.1, 30, .inl (va_cpy bft ft (0 : Int32).toNatClampNeg (0 : Int32).toNatClampNeg (30 : Int32).toNatClampNeg))), (f1, .inl (g.2.1, 30, .inl (va_cpy bfa fa (0 : Int32).toNatClampNeg (0 : Int32).toNatClampNeg (30 : Int32).toNatClampNeg))), (f2, .inl (g.2.1, 30, .inl (va_cpy bfb fb (0 : Int32).toNatClampNeg (0 : Int32).toNatClampNeg (30 : Int32).toNatClampNeg))), (on, .inl (g.2.1, 6, .inl fo)), (ba, .inr (1, [.ref bt, .ref bf1, .ref bf2, .ref bon, .int bni, .int bnn, .int bno, .long bnm, .int bcd, .int bwt])), (bt, .inl (g.2.1, 30, .inl bft)), (bf1, .inl (g.2.1, 30, .inl bfa)), (bf2, .inl (g.2.1, 30, .inl bfb)), (bon, .inl (g.2.1, 6, .inl bfo))] H := hP
  have hD : va_D A [(a, .inr (1, [.ref t, .ref f1, .ref f2, .ref on, .int ni, .int nn, .int no, .long nm, .int cd, .int wt])), (t, .inl (g.2.1, 30, .inl (va_cpy bft ft (0 : Int32).toNatClampNeg (0 : Int32).toNatClampNeg (30 : Int32).toNatClampNeg))), (f1, .inl (g.2.1, 30, .inl (va_cpy bfa fa (0 : Int32).toNatClampNeg (0 : Int32).toNatClampNeg (30 : Int32).toNatClampNeg))), (f2, .inl (g.2.1, 30, .inl (va_cpy bfb fb (0 : Int32).toNatClampNeg (0 : Int32).toNatClampNeg (30 : Int32).toNatClampNeg))), (on, .inl (g.2.1, 6, .inl fo)), (ba, .inr (1, [.ref bt, .ref bf1, .ref bf2, .ref bon, .int bni, .int bnn, .int bno, .long bnm, .int bcd, .int bwt])), (bt, .inl (g.2.1, 30, .inl bft)), (bf1, .inl (g.2.1, 30, .inl bfa)), (bf2, .inl (g.2.1, 30, .inl bfb)), (bon, .inl (g.2.1, 6, .inl bfo))] := hD
  refine lv_aload_n hx hb dX1_copyFrom_45 rfl (lv_at hl 1 rfl) ?_
  refine va_get (D := D) (ci := 1) (v := .ref bon) (C := RX1) (T := TX1) (N := 10) hx hb hts hi1 hown hK hP 5 rfl rfl 3 (by decide) (hts (.fieldLink RX1 21 "SelfCheckingCircuit$Circuit" "outputNodes" "[I") (by decide +kernel)) (fun _ h9 => h9) rfl dX1_copyFrom_46 ?_
  refine lv_iconst (v := 0) hx hb dX1_copyFrom_49 (by decide) ?_
  refine lv_aload_n hx hb dX1_copyFrom_50 rfl (lv_at hl 0 rfl) ?_
  refine va_get (D := D) (ci := 1) (v := .ref on) (C := RX1) (T := TX1) (N := 10) hx hb hts hi1 hown hK hP 0 rfl rfl 3 (by decide) (hts (.fieldLink RX1 21 "SelfCheckingCircuit$Circuit" "outputNodes" "[I") (by decide +kernel)) (fun _ h9 => h9) rfl dX1_copyFrom_51 ?_
  refine lv_iconst (v := 0) hx hb dX1_copyFrom_54 (by decide) ?_
  refine lv_bipush (v := 6) hx hb dX1_copyFrom_55 (by decide) ?_
  refine va_copyi hx hb (by rw [hml]; exact hl.1.symm) hown (hts (.methodLink RX1 24 arraycopyName) (by decide +kernel)) (hts (.native arraycopyName) (by decide +kernel)) (hts (.static arraycopyName) (by decide +kernel)) (hts (.initialized "java/lang/System") (by decide +kernel)) hK hP hD hS 9 4 1 1 rfl rfl rfl rfl rfl (by decide) (by decide) (by decide) (by decide) (by decide) (fun _ _ => rfl) (Nat.le_of_ble_eq_true rfl) (Nat.le_of_ble_eq_true rfl) dX1_copyFrom_57 (fun H locs hP hD hS => ?_)
  have hP : va_P D vwCl [(a, .inr (1, [.ref t, .ref f1, .ref f2, .ref on, .int ni, .int nn, .int no, .long nm, .int cd, .int wt])), (t, .inl (g.2.1, 30, .inl (va_cpy bft ft (0 : Int32).toNatClampNeg (0 : Int32).toNatClampNeg (30 : Int32).toNatClampNeg))), (f1, .inl (g.2.1, 30, .inl (va_cpy bfa fa (0 : Int32).toNatClampNeg (0 : Int32).toNatClampNeg (30 : Int32).toNatClampNeg))), (f2, .inl (g.2.1, 30, .inl (va_cpy bfb fb (0 : Int32).toNatClampNeg (0 : Int32).toNatClampNeg (30 : Int32).toNatClampNeg))), (on, .inl (g.2.1, 6, .inl (va_cpy bfo fo (0 : Int32).toNatClampNeg (0 : Int32).toNatClampNeg (6 : Int32).toNatClampNeg))), (ba, .inr (1, [.ref bt, .ref bf1, .ref bf2, .ref bon, .int bni, .int bnn, .int bno, .long bnm, .int bcd, .int bwt])), (bt, .inl (g.2.1, 30, .inl bft)), (bf1, .inl (g.2.1, 30, .inl bfa)), (bf2, .inl (g.2.1, 30, .inl bfb)), (bon, .inl (g.2.1, 6, .inl bfo))] H := hP
  have hD : va_D A [(a, .inr (1, [.ref t, .ref f1, .ref f2, .ref on, .int ni, .int nn, .int no, .long nm, .int cd, .int wt])), (t, .inl (g.2.1, 30, .inl (va_cpy bft ft (0 : Int32).toNatClampNeg (0 : Int32).toNatClampNeg (30 : Int32).toNatClampNeg))), (f1, .inl (g.2.1, 30, .inl (va_cpy bfa fa (0 : Int32).toNatClampNeg (0 : Int32).toNatClampNeg (30 : Int32).toNatClampNeg))), (f2, .inl (g.2.1, 30, .inl (va_cpy bfb fb (0 : Int32).toNatClampNeg (0 : Int32).toNatClampNeg (30 : Int32).toNatClampNeg))), (on, .inl (g.2.1, 6, .inl (va_cpy bfo fo (0 : Int32).toNatClampNeg (0 : Int32).toNatClampNeg (6 : Int32).toNatClampNeg))), (ba, .inr (1, [.ref bt, .ref bf1, .ref bf2, .ref bon, .int bni, .int bnn, .int bno, .long bnm, .int bcd, .int bwt])), (bt, .inl (g.2.1, 30, .inl bft)), (bf1, .inl (g.2.1, 30, .inl bfa)), (bf2, .inl (g.2.1, 30, .inl bfb)), (bon, .inl (g.2.1, 6, .inl bfo))] := hD
  refine lv_aload_n hx hb dX1_copyFrom_60 rfl (lv_at hl 0 rfl) ?_
  refine lv_aload_n hx hb dX1_copyFrom_61 rfl (lv_at hl 1 rfl) ?_
  refine va_get (D := D) (ci := 1) (v := .int bni) (C := RX1) (T := TX1) (N := 10) hx hb hts hi1 hown hK hP 5 rfl rfl 4 (by decide) (hts (.fieldLink RX1 30 "SelfCheckingCircuit$Circuit" "inputs" "I") (by decide +kernel)) (fun _ h9 => h9) rfl dX1_copyFrom_62 ?_
  refine va_put (D := D) (ci := 1) (v := .int bni) (ty := .int) (C := RX1) (T := TX1) (N := 10) hx hb hts hi1 tyX1 tyX1_ok nmX1 hown hK hP hD hS 0 rfl rfl 4 (by decide) (hts (.fieldLink RX1 30 "SelfCheckingCircuit$Circuit" "inputs" "I") (by decide +kernel)) (fun _ h9 => h9) rfl (by decide +kernel) rfl rfl (Nat.le_of_ble_eq_true rfl) dX1_copyFrom_65 (fun H locs hP hD hS => ?_)
  have hP : va_P D vwCl [(a, .inr (1, [.ref t, .ref f1, .ref f2, .ref on, .int bni, .int nn, .int no, .long nm, .int cd, .int wt])), (t, .inl (g.2.1, 30, .inl (va_cpy bft ft (0 : Int32).toNatClampNeg (0 : Int32).toNatClampNeg (30 : Int32).toNatClampNeg))), (f1, .inl (g.2.1, 30, .inl (va_cpy bfa fa (0 : Int32).toNatClampNeg (0 : Int32).toNatClampNeg (30 : Int32).toNatClampNeg))), (f2, .inl (g.2.1, 30, .inl (va_cpy bfb fb (0 : Int32).toNatClampNeg (0 : Int32).toNatClampNeg (30 : Int32).toNatClampNeg))), (on, .inl (g.2.1, 6, .inl (va_cpy bfo fo (0 : Int32).toNatClampNeg (0 : Int32).toNatClampNeg (6 : Int32).toNatClampNeg))), (ba, .inr (1, [.ref bt, .ref bf1, .ref bf2, .ref bon, .int bni, .int bnn, .int bno, .long bnm, .int bcd, .int bwt])), (bt, .inl (g.2.1, 30, .inl bft)), (bf1, .inl (g.2.1, 30, .inl bfa)), (bf2, .inl (g.2.1, 30, .inl bfb)), (bon, .inl (g.2.1, 6, .inl bfo))] H := hP
  have hD : va_D A [(a, .inr (1, [.ref t, .ref f1, .ref f2, .ref on, .int bni, .int nn, .int no, .long nm, .int cd, .int wt])), (t, .inl (g.2.1, 30, .inl (va_cpy bft ft (0 : Int32).toNatClampNeg (0 : Int32).toNatClampNeg (30 : Int32).toNatClampNeg))), (f1, .inl (g.2.1, 30, .inl (va_cpy bfa fa (0 : Int32).toNatClampNeg (0 : Int32).toNatClampNeg (30 : Int32).toNatClampNeg))), (f2, .inl (g.2.1, 30, .inl (va_cpy bfb fb (0 : Int32).toNatClampNeg (0 : Int32).toNatClampNeg (30 : Int32).toNatClampNeg))), (on, .inl (g.2.1, 6, .inl (va_cpy bfo fo (0 : Int32).toNatClampNeg (0 : Int32).toNatClampNeg (6 : Int32).toNatClampNeg))), (ba, .inr (1, [.ref bt, .ref bf1, .ref bf2, .ref bon, .int bni, .int bnn, .int bno, .long bnm, .int bcd, .int bwt])), (bt, .inl (g.2.1, 30, .inl bft)), (bf1, .inl (g.2.1, 30, .inl bfa)), (bf2, .inl (g.2.1, 30, .inl bfb)), (bon, .inl (g.2.1, 6, .inl bfo))] := hD
  refine lv_aload_n hx hb dX1_copyFrom_68 rfl (lv_at hl 0 rfl) ?_
  refine lv_aload_n hx hb dX1_copyFrom_69 rfl (lv_at hl 1 rfl) ?_
  refine va_get (D := D) (ci := 1) (v := .int bnn) (C := RX1) (T := TX1) (N := 10) hx hb hts hi1 hown hK hP 5 rfl rfl 5 (by decide) (hts (.fieldLink RX1 34 "SelfCheckingCircuit$Circuit" "nodes" "I") (by decide +kernel)) (fun _ h9 => h9) rfl dX1_copyFrom_70 ?_
  refine va_put (D := D) (ci := 1) (v := .int bnn) (ty := .int) (C := RX1) (T := TX1) (N := 10) hx hb hts hi1 tyX1 tyX1_ok nmX1 hown hK hP hD hS 0 rfl rfl 5 (by decide) (hts (.fieldLink RX1 34 "SelfCheckingCircuit$Circuit" "nodes" "I") (by decide +kernel)) (fun _ h9 => h9) rfl (by decide +kernel) rfl rfl (Nat.le_of_ble_eq_true rfl) dX1_copyFrom_73 (fun H locs hP hD hS => ?_)
  have hP : va_P D vwCl [(a, .inr (1, [.ref t, .ref f1, .ref f2, .ref on, .int bni, .int bnn, .int no, .long nm, .int cd, .int wt])), (t, .inl (g.2.1, 30, .inl (va_cpy bft ft (0 : Int32).toNatClampNeg (0 : Int32).toNatClampNeg (30 : Int32).toNatClampNeg))), (f1, .inl (g.2.1, 30, .inl (va_cpy bfa fa (0 : Int32).toNatClampNeg (0 : Int32).toNatClampNeg (30 : Int32).toNatClampNeg))), (f2, .inl (g.2.1, 30, .inl (va_cpy bfb fb (0 : Int32).toNatClampNeg (0 : Int32).toNatClampNeg (30 : Int32).toNatClampNeg))), (on, .inl (g.2.1, 6, .inl (va_cpy bfo fo (0 : Int32).toNatClampNeg (0 : Int32).toNatClampNeg (6 : Int32).toNatClampNeg))), (ba, .inr (1, [.ref bt, .ref bf1, .ref bf2, .ref bon, .int bni, .int bnn, .int bno, .long bnm, .int bcd, .int bwt])), (bt, .inl (g.2.1, 30, .inl bft)), (bf1, .inl (g.2.1, 30, .inl bfa)), (bf2, .inl (g.2.1, 30, .inl bfb)), (bon, .inl (g.2.1, 6, .inl bfo))] H := hP
  have hD : va_D A [(a, .inr (1, [.ref t, .ref f1, .ref f2, .ref on, .int bni, .int bnn, .int no, .long nm, .int cd, .int wt])), (t, .inl (g.2.1, 30, .inl (va_cpy bft ft (0 : Int32).toNatClampNeg (0 : Int32).toNatClampNeg (30 : Int32).toNatClampNeg))), (f1, .inl (g.2.1, 30, .inl (va_cpy bfa fa (0 : Int32).toNatClampNeg (0 : Int32).toNatClampNeg (30 : Int32).toNatClampNeg))), (f2, .inl (g.2.1, 30, .inl (va_cpy bfb fb (0 : Int32).toNatClampNeg (0 : Int32).toNatClampNeg (30 : Int32).toNatClampNeg))), (on, .inl (g.2.1, 6, .inl (va_cpy bfo fo (0 : Int32).toNatClampNeg (0 : Int32).toNatClampNeg (6 : Int32).toNatClampNeg))), (ba, .inr (1, [.ref bt, .ref bf1, .ref bf2, .ref bon, .int bni, .int bnn, .int bno, .long bnm, .int bcd, .int bwt])), (bt, .inl (g.2.1, 30, .inl bft)), (bf1, .inl (g.2.1, 30, .inl bfa)), (bf2, .inl (g.2.1, 30, .inl bfb)), (bon, .inl (g.2.1, 6, .inl bfo))] := hD
  refine lv_aload_n hx hb dX1_copyFrom_76 rfl (lv_at hl 0 rfl) ?_
  refine lv_aload_n hx hb dX1_copyFrom_77 rfl (lv_at hl 1 rfl) ?_
  refine va_get (D := D) (ci := 1) (v := .int bno) (C := RX1) (T := TX1) (N := 10) hx hb hts hi1 hown hK hP 5 rfl rfl 6 (by decide) (hts (.fieldLink RX1 37 "SelfCheckingCircuit$Circuit" "outputs" "I") (by decide +kernel)) (fun _ h9 => h9) rfl dX1_copyFrom_78 ?_
  refine va_put (D := D) (ci := 1) (v := .int bno) (ty := .int) (C := RX1) (T := TX1) (N := 10) hx hb hts hi1 tyX1 tyX1_ok nmX1 hown hK hP hD hS 0 rfl rfl 6 (by decide) (hts (.fieldLink RX1 37 "SelfCheckingCircuit$Circuit" "outputs" "I") (by decide +kernel)) (fun _ h9 => h9) rfl (by decide +kernel) rfl rfl (Nat.le_of_ble_eq_true rfl) dX1_copyFrom_81 (fun H locs hP hD hS => ?_)
  have hP : va_P D vwCl [(a, .inr (1, [.ref t, .ref f1, .ref f2, .ref on, .int bni, .int bnn, .int bno, .long nm, .int cd, .int wt])), (t, .inl (g.2.1, 30, .inl (va_cpy bft ft (0 : Int32).toNatClampNeg (0 : Int32).toNatClampNeg (30 : Int32).toNatClampNeg))), (f1, .inl (g.2.1, 30, .inl (va_cpy bfa fa (0 : Int32).toNatClampNeg (0 : Int32).toNatClampNeg (30 : Int32).toNatClampNeg))), (f2, .inl (g.2.1, 30, .inl (va_cpy bfb fb (0 : Int32).toNatClampNeg (0 : Int32).toNatClampNeg (30 : Int32).toNatClampNeg))), (on, .inl (g.2.1, 6, .inl (va_cpy bfo fo (0 : Int32).toNatClampNeg (0 : Int32).toNatClampNeg (6 : Int32).toNatClampNeg))), (ba, .inr (1, [.ref bt, .ref bf1, .ref bf2, .ref bon, .int bni, .int bnn, .int bno, .long bnm, .int bcd, .int bwt])), (bt, .inl (g.2.1, 30, .inl bft)), (bf1, .inl (g.2.1, 30, .inl bfa)), (bf2, .inl (g.2.1, 30, .inl bfb)), (bon, .inl (g.2.1, 6, .inl bfo))] H := hP
  have hD : va_D A [(a, .inr (1, [.ref t, .ref f1, .ref f2, .ref on, .int bni, .int bnn, .int bno, .long nm, .int cd, .int wt])), (t, .inl (g.2.1, 30, .inl (va_cpy bft ft (0 : Int32).toNatClampNeg (0 : Int32).toNatClampNeg (30 : Int32).toNatClampNeg))), (f1, .inl (g.2.1, 30, .inl (va_cpy bfa fa (0 : Int32).toNatClampNeg (0 : Int32).toNatClampNeg (30 : Int32).toNatClampNeg))), (f2, .inl (g.2.1, 30, .inl (va_cpy bfb fb (0 : Int32).toNatClampNeg (0 : Int32).toNatClampNeg (30 : Int32).toNatClampNeg))), (on, .inl (g.2.1, 6, .inl (va_cpy bfo fo (0 : Int32).toNatClampNeg (0 : Int32).toNatClampNeg (6 : Int32).toNatClampNeg))), (ba, .inr (1, [.ref bt, .ref bf1, .ref bf2, .ref bon, .int bni, .int bnn, .int bno, .long bnm, .int bcd, .int bwt])), (bt, .inl (g.2.1, 30, .inl bft)), (bf1, .inl (g.2.1, 30, .inl bfa)), (bf2, .inl (g.2.1, 30, .inl bfb)), (bon, .inl (g.2.1, 6, .inl bfo))] := hD
  refine lv_aload_n hx hb dX1_copyFrom_84 rfl (lv_at hl 0 rfl) ?_
  refine lv_aload_n hx hb dX1_copyFrom_85 rfl (lv_at hl 1 rfl) ?_
  refine va_get (D := D) (ci := 1) (v := .long bnm) (C := RX1) (T := TX1) (N := 10) hx hb hts hi1 hown hK hP 5 rfl rfl 7 (by decide) (hts (.fieldLink RX1 40 "SelfCheckingCircuit$Circuit" "normal" "J") (by decide +kernel)) (fun _ h9 => h9) rfl dX1_copyFrom_86 ?_
  refine va_put (D := D) (ci := 1) (v := .long bnm) (ty := .long) (C := RX1) (T := TX1) (N := 10) hx hb hts hi1 tyX1 tyX1_ok nmX1 hown hK hP hD hS 0 rfl rfl 7 (by decide) (hts (.fieldLink RX1 40 "SelfCheckingCircuit$Circuit" "normal" "J") (by decide +kernel)) (fun _ h9 => h9) rfl (by decide +kernel) rfl rfl (Nat.le_of_ble_eq_true rfl) dX1_copyFrom_89 (fun H locs hP hD hS => ?_)
  have hP : va_P D vwCl [(a, .inr (1, [.ref t, .ref f1, .ref f2, .ref on, .int bni, .int bnn, .int bno, .long bnm, .int cd, .int wt])), (t, .inl (g.2.1, 30, .inl (va_cpy bft ft (0 : Int32).toNatClampNeg (0 : Int32).toNatClampNeg (30 : Int32).toNatClampNeg))), (f1, .inl (g.2.1, 30, .inl (va_cpy bfa fa (0 : Int32).toNatClampNeg (0 : Int32).toNatClampNeg (30 : Int32).toNatClampNeg))), (f2, .inl (g.2.1, 30, .inl (va_cpy bfb fb (0 : Int32).toNatClampNeg (0 : Int32).toNatClampNeg (30 : Int32).toNatClampNeg))), (on, .inl (g.2.1, 6, .inl (va_cpy bfo fo (0 : Int32).toNatClampNeg (0 : Int32).toNatClampNeg (6 : Int32).toNatClampNeg))), (ba, .inr (1, [.ref bt, .ref bf1, .ref bf2, .ref bon, .int bni, .int bnn, .int bno, .long bnm, .int bcd, .int bwt])), (bt, .inl (g.2.1, 30, .inl bft)), (bf1, .inl (g.2.1, 30, .inl bfa)), (bf2, .inl (g.2.1, 30, .inl bfb)), (bon, .inl (g.2.1, 6, .inl bfo))] H := hP
  have hD : va_D A [(a, .inr (1, [.ref t, .ref f1, .ref f2, .ref on, .int bni, .int bnn, .int bno, .long bnm, .int cd, .int wt])), (t, .inl (g.2.1, 30, .inl (va_cpy bft ft (0 : Int32).toNatClampNeg (0 : Int32).toNatClampNeg (30 : Int32).toNatClampNeg))), (f1, .inl (g.2.1, 30, .inl (va_cpy bfa fa (0 : Int32).toNatClampNeg (0 : Int32).toNatClampNeg (30 : Int32).toNatClampNeg))), (f2, .inl (g.2.1, 30, .inl (va_cpy bfb fb (0 : Int32).toNatClampNeg (0 : Int32).toNatClampNeg (30 : Int32).toNatClampNeg))), (on, .inl (g.2.1, 6, .inl (va_cpy bfo fo (0 : Int32).toNatClampNeg (0 : Int32).toNatClampNeg (6 : Int32).toNatClampNeg))), (ba, .inr (1, [.ref bt, .ref bf1, .ref bf2, .ref bon, .int bni, .int bnn, .int bno, .long bnm, .int bcd, .int bwt])), (bt, .inl (g.2.1, 30, .inl bft)), (bf1, .inl (g.2.1, 30, .inl bfa)), (bf2, .inl (g.2.1, 30, .inl bfb)), (bon, .inl (g.2.1, 6, .inl bfo))] := hD
  refine lv_aload_n hx hb dX1_copyFrom_92 rfl (lv_at hl 0 rfl) ?_
  refine lv_aload_n hx hb dX1_copyFrom_93 rfl (lv_at hl 1 rfl) ?_
  refine va_get (D := D) (ci := 1) (v := .int bcd) (C := RX1) (T := TX1) (N := 10) hx hb hts hi1 hown hK hP 5 rfl rfl 8 (by decide) (hts (.fieldLink RX1 44 "SelfCheckingCircuit$Circuit" "code" "I") (by decide +kernel)) (fun _ h9 => h9) rfl dX1_copyFrom_94 ?_
  refine va_put (D := D) (ci := 1) (v := .int bcd) (ty := .int) (C := RX1) (T := TX1) (N := 10) hx hb hts hi1 tyX1 tyX1_ok nmX1 hown hK hP hD hS 0 rfl rfl 8 (by decide) (hts (.fieldLink RX1 44 "SelfCheckingCircuit$Circuit" "code" "I") (by decide +kernel)) (fun _ h9 => h9) rfl (by decide +kernel) rfl rfl (Nat.le_of_ble_eq_true rfl) dX1_copyFrom_97 (fun H locs hP hD hS => ?_)
  have hP : va_P D vwCl [(a, .inr (1, [.ref t, .ref f1, .ref f2, .ref on, .int bni, .int bnn, .int bno, .long bnm, .int bcd, .int wt])), (t, .inl (g.2.1, 30, .inl (va_cpy bft ft (0 : Int32).toNatClampNeg (0 : Int32).toNatClampNeg (30 : Int32).toNatClampNeg))), (f1, .inl (g.2.1, 30, .inl (va_cpy bfa fa (0 : Int32).toNatClampNeg (0 : Int32).toNatClampNeg (30 : Int32).toNatClampNeg))), (f2, .inl (g.2.1, 30, .inl (va_cpy bfb fb (0 : Int32).toNatClampNeg (0 : Int32).toNatClampNeg (30 : Int32).toNatClampNeg))), (on, .inl (g.2.1, 6, .inl (va_cpy bfo fo (0 : Int32).toNatClampNeg (0 : Int32).toNatClampNeg (6 : Int32).toNatClampNeg))), (ba, .inr (1, [.ref bt, .ref bf1, .ref bf2, .ref bon, .int bni, .int bnn, .int bno, .long bnm, .int bcd, .int bwt])), (bt, .inl (g.2.1, 30, .inl bft)), (bf1, .inl (g.2.1, 30, .inl bfa)), (bf2, .inl (g.2.1, 30, .inl bfb)), (bon, .inl (g.2.1, 6, .inl bfo))] H := hP
  have hD : va_D A [(a, .inr (1, [.ref t, .ref f1, .ref f2, .ref on, .int bni, .int bnn, .int bno, .long bnm, .int bcd, .int wt])), (t, .inl (g.2.1, 30, .inl (va_cpy bft ft (0 : Int32).toNatClampNeg (0 : Int32).toNatClampNeg (30 : Int32).toNatClampNeg))), (f1, .inl (g.2.1, 30, .inl (va_cpy bfa fa (0 : Int32).toNatClampNeg (0 : Int32).toNatClampNeg (30 : Int32).toNatClampNeg))), (f2, .inl (g.2.1, 30, .inl (va_cpy bfb fb (0 : Int32).toNatClampNeg (0 : Int32).toNatClampNeg (30 : Int32).toNatClampNeg))), (on, .inl (g.2.1, 6, .inl (va_cpy bfo fo (0 : Int32).toNatClampNeg (0 : Int32).toNatClampNeg (6 : Int32).toNatClampNeg))), (ba, .inr (1, [.ref bt, .ref bf1, .ref bf2, .ref bon, .int bni, .int bnn, .int bno, .long bnm, .int bcd, .int bwt])), (bt, .inl (g.2.1, 30, .inl bft)), (bf1, .inl (g.2.1, 30, .inl bfa)), (bf2, .inl (g.2.1, 30, .inl bfb)), (bon, .inl (g.2.1, 6, .inl bfo))] := hD
  refine lv_aload_n hx hb dX1_copyFrom_100 rfl (lv_at hl 0 rfl) ?_
  refine lv_aload_n hx hb dX1_copyFrom_101 rfl (lv_at hl 1 rfl) ?_
  refine va_get (D := D) (ci := 1) (v := .int bwt) (C := RX1) (T := TX1) (N := 10) hx hb hts hi1 hown hK hP 5 rfl rfl 9 (by decide) (hts (.fieldLink RX1 47 "SelfCheckingCircuit$Circuit" "weight" "I") (by decide +kernel)) (fun _ h9 => h9) rfl dX1_copyFrom_102 ?_
  refine va_put (D := D) (ci := 1) (v := .int bwt) (ty := .int) (C := RX1) (T := TX1) (N := 10) hx hb hts hi1 tyX1 tyX1_ok nmX1 hown hK hP hD hS 0 rfl rfl 9 (by decide) (hts (.fieldLink RX1 47 "SelfCheckingCircuit$Circuit" "weight" "I") (by decide +kernel)) (fun _ h9 => h9) rfl (by decide +kernel) rfl rfl (Nat.le_of_ble_eq_true rfl) dX1_copyFrom_105 (fun H locs hP hD hS => ?_)
  have hP : va_P D vwCl [(a, .inr (1, [.ref t, .ref f1, .ref f2, .ref on, .int bni, .int bnn, .int bno, .long bnm, .int bcd, .int bwt])), (t, .inl (g.2.1, 30, .inl (va_cpy bft ft (0 : Int32).toNatClampNeg (0 : Int32).toNatClampNeg (30 : Int32).toNatClampNeg))), (f1, .inl (g.2.1, 30, .inl (va_cpy bfa fa (0 : Int32).toNatClampNeg (0 : Int32).toNatClampNeg (30 : Int32).toNatClampNeg))), (f2, .inl (g.2.1, 30, .inl (va_cpy bfb fb (0 : Int32).toNatClampNeg (0 : Int32).toNatClampNeg (30 : Int32).toNatClampNeg))), (on, .inl (g.2.1, 6, .inl (va_cpy bfo fo (0 : Int32).toNatClampNeg (0 : Int32).toNatClampNeg (6 : Int32).toNatClampNeg))), (ba, .inr (1, [.ref bt, .ref bf1, .ref bf2, .ref bon, .int bni, .int bnn, .int bno, .long bnm, .int bcd, .int bwt])), (bt, .inl (g.2.1, 30, .inl bft)), (bf1, .inl (g.2.1, 30, .inl bfa)), (bf2, .inl (g.2.1, 30, .inl bfb)), (bon, .inl (g.2.1, 6, .inl bfo))] H := hP
  have hD : va_D A [(a, .inr (1, [.ref t, .ref f1, .ref f2, .ref on, .int bni, .int bnn, .int bno, .long bnm, .int bcd, .int bwt])), (t, .inl (g.2.1, 30, .inl (va_cpy bft ft (0 : Int32).toNatClampNeg (0 : Int32).toNatClampNeg (30 : Int32).toNatClampNeg))), (f1, .inl (g.2.1, 30, .inl (va_cpy bfa fa (0 : Int32).toNatClampNeg (0 : Int32).toNatClampNeg (30 : Int32).toNatClampNeg))), (f2, .inl (g.2.1, 30, .inl (va_cpy bfb fb (0 : Int32).toNatClampNeg (0 : Int32).toNatClampNeg (30 : Int32).toNatClampNeg))), (on, .inl (g.2.1, 6, .inl (va_cpy bfo fo (0 : Int32).toNatClampNeg (0 : Int32).toNatClampNeg (6 : Int32).toNatClampNeg))), (ba, .inr (1, [.ref bt, .ref bf1, .ref bf2, .ref bon, .int bni, .int bnn, .int bno, .long bnm, .int bcd, .int bwt])), (bt, .inl (g.2.1, 30, .inl bft)), (bf1, .inl (g.2.1, 30, .inl bfa)), (bf2, .inl (g.2.1, 30, .inl bfb)), (bon, .inl (g.2.1, 6, .inl bfo))] := hD
  have hP9 := hP.sub (ws' := [(a, .inr (1, [.ref t, .ref f1, .ref f2, .ref on, .int bni, .int bnn, .int bno, .long bnm, .int bcd, .int bwt])), (t, .inl (g.2.1, 30, .inl (va_cpy bft ft (0 : Int32).toNatClampNeg (0 : Int32).toNatClampNeg (30 : Int32).toNatClampNeg))), (f1, .inl (g.2.1, 30, .inl (va_cpy bfa fa (0 : Int32).toNatClampNeg (0 : Int32).toNatClampNeg (30 : Int32).toNatClampNeg))), (f2, .inl (g.2.1, 30, .inl (va_cpy bfb fb (0 : Int32).toNatClampNeg (0 : Int32).toNatClampNeg (30 : Int32).toNatClampNeg))), (on, .inl (g.2.1, 6, .inl (va_cpy bfo fo (0 : Int32).toNatClampNeg (0 : Int32).toNatClampNeg (6 : Int32).toNatClampNeg))), (ba, .inr (1, [.ref bt, .ref bf1, .ref bf2, .ref bon, .int bni, .int bnn, .int bno, .long bnm, .int bcd, .int bwt])), (bt, .inl (g.2.1, 30, .inl bft)), (bf1, .inl (g.2.1, 30, .inl bfa)), (bf2, .inl (g.2.1, 30, .inl bfb)), (bon, .inl (g.2.1, 6, .inl bfo))]) [0, 1, 2, 3, 4, 5, 6, 7, 8, 9] rfl
  have hD9 := hD.sub (ws' := [(a, .inr (1, [.ref t, .ref f1, .ref f2, .ref on, .int bni, .int bnn, .int bno, .long bnm, .int bcd, .int bwt])), (t, .inl (g.2.1, 30, .inl (va_cpy bft ft (0 : Int32).toNatClampNeg (0 : Int32).toNatClampNeg (30 : Int32).toNatClampNeg))), (f1, .inl (g.2.1, 30, .inl (va_cpy bfa fa (0 : Int32).toNatClampNeg (0 : Int32).toNatClampNeg (30 : Int32).toNatClampNeg))), (f2, .inl (g.2.1, 30, .inl (va_cpy bfb fb (0 : Int32).toNatClampNeg (0 : Int32).toNatClampNeg (30 : Int32).toNatClampNeg))), (on, .inl (g.2.1, 6, .inl (va_cpy bfo fo (0 : Int32).toNatClampNeg (0 : Int32).toNatClampNeg (6 : Int32).toNatClampNeg))), (ba, .inr (1, [.ref bt, .ref bf1, .ref bf2, .ref bon, .int bni, .int bnn, .int bno, .long bnm, .int bcd, .int bwt])), (bt, .inl (g.2.1, 30, .inl bft)), (bf1, .inl (g.2.1, 30, .inl bfa)), (bf2, .inl (g.2.1, 30, .inl bfb)), (bon, .inl (g.2.1, 6, .inl bfo))]) [0, 1, 2, 3, 4, 5, 6, 7, 8, 9] (by decide) rfl
  exact W.vret hx hb hr (fun t ht hW => ⟨⟨((va_cpy bft ft (0 : Int32).toNatClampNeg (0 : Int32).toNatClampNeg (30 : Int32).toNatClampNeg), (va_cpy bfa fa (0 : Int32).toNatClampNeg (0 : Int32).toNatClampNeg (30 : Int32).toNatClampNeg), (va_cpy bfb fb (0 : Int32).toNatClampNeg (0 : Int32).toNatClampNeg (30 : Int32).toNatClampNeg), (va_cpy bfo fo (0 : Int32).toNatClampNeg (0 : Int32).toNatClampNeg (6 : Int32).toNatClampNeg)), rfl, ⟨fun j hj => hk_cp hj, fun j hj => hk_cp hj, fun j hj => hk_cp hj, fun j hj => hk_cp hj⟩, by rw [ht]; exact hP9, hD9⟩, hS.F ht⟩) hS.2.2 dX1_copyFrom_108
set_option maxHeartbeats 4000000 in
set_option maxRecDepth 100000 in
theorem c2_put (l : Launch) (D : va_G) (g : hk_G) (ti : Nat) (sz : Nat) (a : Nat) (t : Nat) (fc : Nat → Int32) (ln : Nat) (x : Int32) (hl2 : ln < 200) : Met l yX2_put wsX2_put ({ frames := 0, cells := 0, slots := 0, locals := 0 }) (va_Pc [.ref a, .int x] (hk_In D g ti [(a, .inr (2, [.ref t, .int (nI ln)])), (t, .inl (g.1, 200, .inl fc))] sz)) (va_Qv (S := Unit) (fun _ => True) (fun u => hk_Out D (va_A [(a, .inr (2, [.ref t, .int (nI ln)])), (t, .inl (g.1, 200, .inl fc))] sz) (match u with | _ => [(a, .inr (2, [.ref t, .int (nI (ln + 1))])), (t, .inl (g.1, 200, .inl (upd fc ln (vp_nar .char x))))])) (va_A [(a, .inr (2, [.ref t, .int (nI ln)])), (t, .inl (g.1, 200, .inl fc))] sz)) 0 0 (va_A [(a, .inr (2, [.ref t, .int (nI ln)])), (t, .inl (g.1, 200, .inl fc))] sz) := by
  refine Met.ofW (cc := cX2_put) (maxL := 2) (ret := none) (by decide) rfl ?_
  intro p e s m args below meth c s₁ B hml hv
  obtain ⟨rfl, hsz, hP, hD0, hE⟩ := hv
  have hx := B.exec
  have hb := B.bytes
  have hr := B.returns
  have hts := atoms_spec (ws := wsX2_put) B.pre
  have hown : s.vm.findClass RX2 = some m.cls := findClass_of_methodNamed B.named
  have hlocks := B.notSynchronized
  have hK := hE.1
  have hi2 : ∀ w ∈ wsX20, w ∈ wsX2_put := fun w h => List.mem_cons_of_mem _ (List.mem_append_right _ h)
  subst hsz
  have hD := hD0.self (sz := s.heap.size)
  generalize hAe : va_A [(a, .inr (2, [.ref t, .int (nI ln)])), (t, .inl (g.1, 200, .inl fc))] s.heap.size = A at hD hE ⊢
  have hA : ∀ q : Nat, s.heap.size ≤ q → A q := fun q h => by rw [← hAe]; exact Or.inr h
  have hS : va_S A s.heap s.heap [] := va_S.rf
  have hl := lv_entry ([.ref a, .int x]) (n := 2) (Nat.le_of_ble_eq_true rfl)
  rw [lg_entry_eq]
  generalize (lg_sl ([.ref a, .int x]) ++ List.replicate (2 - (lg_sl ([.ref a, .int x])).length) Slot.unset).toArray = ls at hl ⊢
  have hl : lv_has ls 2 [(0, .ref a), (1, .int x)] := hl
  refine lv_aload_n hx hb dX2_put_0 rfl (lv_at hl 0 rfl) ?_
  refine va_get (D := D) (ci := 2) (v := .int (nI ln)) (C := RX2) (T := TX2) (N := 2) hx hb hts hi2 hown hK hP 0 rfl rfl 1 (by decide) (hts (.fieldLink RX2 15 "SelfCheckingCircuit$CircuitText" "length" "I") (by decide +kernel)) (fun _ h9 => h9) rfl dX2_put_1 ?_
  refine lv_if_lt (tgt := 37) hx hb dX2_put_4 (by decide) (fun c_1 => ?_) (fun c_1 => ?_)
  · have c_1h : nI ln < (0 : Int32) := c_1
    exact absurd c_1 (nI_pos (by omega))
  · have c_1h : ¬ nI ln < (0 : Int32) := c_1
    refine lv_aload_n hx hb dX2_put_7 rfl (lv_at hl 0 rfl) ?_
    refine va_get (D := D) (ci := 2) (v := .int (nI ln)) (C := RX2) (T := TX2) (N := 2) hx hb hts hi2 hown hK hP 0 rfl rfl 1 (by decide) (hts (.fieldLink RX2 15 "SelfCheckingCircuit$CircuitText" "length" "I") (by decide +kernel)) (fun _ h9 => h9) rfl dX2_put_8 ?_
    refine lv_sipush (v := 200) hx hb dX2_put_11 (by decide) ?_
    refine lv_icmp_ge (tgt := 37) hx hb dX2_put_14 (by decide) (fun c_2 => ?_) (fun c_2 => ?_)
    · have c_2h : (200 : Int32) ≤ nI ln := c_2
      exact absurd c_2 (nI_ge hl2 (by decide))
    · have c_2h : ¬ (200 : Int32) ≤ nI ln := c_2
      refine lv_aload_n hx hb dX2_put_17 rfl (lv_at hl 0 rfl) ?_
      refine va_get (D := D) (ci := 2) (v := .ref t) (C := RX2) (T := TX2) (N := 2) hx hb hts hi2 hown hK hP 0 rfl rfl 0 (by decide) (hts (.fieldLink RX2 9 "SelfCheckingCircuit$CircuitText" "characters" "[C") (by decide +kernel)) (fun _ h9 => h9) rfl dX2_put_18 ?_
      refine lv_aload_n hx hb dX2_put_21 rfl (lv_at hl 0 rfl) ?_
      refine va_get (D := D) (ci := 2) (v := .int (nI ln)) (C := RX2) (T := TX2) (N := 2) hx hb hts hi2 hown hK hP 0 rfl rfl 1 (by decide) (hts (.fieldLink RX2 15 "SelfCheckingCircuit$CircuitText" "length" "I") (by decide +kernel)) (fun _ h9 => h9) rfl dX2_put_22 ?_
      refine lv_iload_n hx hb dX2_put_25 rfl (lv_at hl 1 rfl) ?_
      refine va_cast hx hb hK hP hD hS 1 0 rfl rfl (vp_in_nI (N := 200) hl2 (by decide)) dX2_put_26 (fun H locs hP hD hS => ?_)
      rw [show (nI ln).toNatClampNeg = ln from nI_clamp (by omega)] at hP hD
      have hP : va_P D vwCl [(a, .inr (2, [.ref t, .int (nI ln)])), (t, .inl (g.1, 200, .inl (upd fc ln (vp_nar .char x))))] H := hP
      have hD : va_D A [(a, .inr (2, [.ref t, .int (nI ln)])), (t, .inl (g.1, 200, .inl (upd fc ln (vp_nar .char x))))] := hD
      refine lv_aload_n hx hb dX2_put_27 rfl (lv_at hl 0 rfl) ?_
      refine lv_dup hx hb dX2_put_28 rfl ?_
      refine va_get (D := D) (ci := 2) (v := .int (nI ln)) (C := RX2) (T := TX2) (N := 2) hx hb hts hi2 hown hK hP 0 rfl rfl 1 (by decide) (hts (.fieldLink RX2 15 "SelfCheckingCircuit$CircuitText" "length" "I") (by decide +kernel)) (fun _ h9 => h9) rfl dX2_put_29 ?_
      refine lv_iconst (v := 1) hx hb dX2_put_32 (by decide) ?_
      refine lv_iadd hx hb dX2_put_33 ?_
      refine hk_ti (nI (ln + 1)) (nI_1 ln) ?_
      refine va_put (D := D) (ci := 2) (v := .int (nI (ln + 1))) (ty := .int) (C := RX2) (T := TX2) (N := 2) hx hb hts hi2 tyX2 tyX2_ok nmX2 hown hK hP hD hS 0 rfl rfl 1 (by decide) (hts (.fieldLink RX2 15 "SelfCheckingCircuit$CircuitText" "length" "I") (by decide +kernel)) (fun _ h9 => h9) rfl (by decide +kernel) rfl rfl (Nat.le_of_ble_eq_true rfl) dX2_put_34 (fun H locs hP hD hS => ?_)
      have hP : va_P D vwCl [(a, .inr (2, [.ref t, .int (nI (ln + 1))])), (t, .inl (g.1, 200, .inl (upd fc ln (vp_nar .char x))))] H := hP
      have hD : va_D A [(a, .inr (2, [.ref t, .int (nI (ln + 1))])), (t, .inl (g.1, 200, .inl (upd fc ln (vp_nar .char x))))] := hD
      have hP9 := hP.sub (ws' := [(a, .inr (2, [.ref t, .int (nI (ln + 1))])), (t, .inl (g.1, 200, .inl (upd fc ln (vp_nar .char x))))]) [0, 1] rfl
      have hD9 := hD.sub (ws' := [(a, .inr (2, [.ref t, .int (nI (ln + 1))])), (t, .inl (g.1, 200, .inl (upd fc ln (vp_nar .char x))))]) [0, 1] (by decide) rfl
      exact W.vret hx hb hr (fun t ht hW => ⟨⟨(), rfl, trivial, by rw [ht]; exact hP9, hD9⟩, hS.F ht⟩) hS.2.2 dX2_put_37
