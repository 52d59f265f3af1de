set_option maxHeartbeats 4000000 in
set_option maxRecDepth 100000 in
theorem c0_clearTally (l : Launch) (D : va_G) (g : hk_G) (ti : Nat) (sz : Nat) (z : Nat) (v0 : Value) (v1 : Value) (v2 : Value) (v3 : Value) (v5 : Value) (q4 : Nat) (tl : Nat → Int64)  : Met l yX0_clearTally wsX0_clearTally ({ frames := 0, cells := 0, slots := 0, locals := 0 }) (va_Pc [.ref z] (hk_In D g ti [(z, .inr (0, [v0, v1, v2, v3, .ref q4, v5])), (q4, .inl (g.2.2.1, 3, .inr (.inl tl)))] sz)) (va_Qv (S := Nat → Int64) (fun f' => f' 0 = 0 ∧ f' 1 = 0 ∧ f' 2 = 0) (fun u => hk_Out D (va_A [(z, .inr (0, [v0, v1, v2, v3, .ref q4, v5])), (q4, .inl (g.2.2.1, 3, .inr (.inl tl)))] sz) (match u with | f' => [(z, .inr (0, [v0, v1, v2, v3, .ref q4, v5])), (q4, .inl (g.2.2.1, 3, .inr (.inl f')))])) (va_A [(z, .inr (0, [v0, v1, v2, v3, .ref q4, v5])), (q4, .inl (g.2.2.1, 3, .inr (.inl tl)))] sz)) 0 0 (va_A [(z, .inr (0, [v0, v1, v2, v3, .ref q4, v5])), (q4, .inl (g.2.2.1, 3, .inr (.inl tl)))] sz) := by
  refine Met.ofW (cc := cX0_clearTally) (maxL := 2) (ret := none) (by decide) rfl ?_
  intro p e s m args below meth c s₁ Bd hml hv
  obtain ⟨rfl, hsz, hP, hD0, hE⟩ := hv
  have hx := Bd.exec
  have hb := Bd.bytes
  have hr := Bd.returns
  have hts := atoms_spec (ws := wsX0_clearTally) Bd.pre
  have hown : s.vm.findClass RX0 = some m.cls := findClass_of_methodNamed Bd.named
  have hlocks := Bd.notSynchronized
  have hK := hE.1
  have hi0 : ∀ w ∈ wsX00, w ∈ wsX0_clearTally := fun w h => List.mem_cons_of_mem _ (List.mem_append_right _ h)
  subst hsz
  have hD := hD0.self (sz := s.heap.size)
  generalize hAe : va_A [(z, .inr (0, [v0, v1, v2, v3, .ref q4, v5])), (q4, .inl (g.2.2.1, 3, .inr (.inl tl)))] s.heap.size = A at hD hE ⊢
  have hA : ∀ q : Nat, s.heap.size ≤ q → A q := fun q h => by rw [← hAe]; exact Or.inr h
  have hS : va_S A s.heap s.heap [] := va_S.rf
  have hl := lv_entry ([.ref z]) (n := 2) (Nat.le_of_ble_eq_true rfl)
  rw [lg_entry_eq]
  generalize (lg_sl ([.ref z]) ++ List.replicate (2 - (lg_sl ([.ref z])).length) Slot.unset).toArray = ls at hl ⊢
  have hl : lv_has ls 2 [(0, .ref z)] := hl
  refine lv_iconst (v := 0) hx hb dX0_clearTally_0 (by decide) ?_
  refine lv_istore_n (lv' := [(1, .int 0), (0, .ref z)]) hx hb dX0_clearTally_1 rfl hl (by decide) rfl (fun ls hl => ?_)
  refine lv_iload_n hx hb dX0_clearTally_2 rfl (lv_at hl 0 rfl) ?_
  refine lv_iconst (v := 3) hx hb dX0_clearTally_3 (by decide) ?_
  refine lv_icmp_ge (tgt := 20) hx hb dX0_clearTally_4 (by decide) (fun c_1 => ?_) (fun c_1 => ?_)
  · have c_1h : (3 : Int32) ≤ (0 : Int32) := c_1
    exact absurd c_1 (by decide)
  · have c_1h : ¬ (3 : Int32) ≤ (0 : Int32) := c_1
    refine lv_aload_n hx hb dX0_clearTally_7 rfl (lv_at hl 1 rfl) ?_
    refine va_get (D := D) (ci := 0) (v := .ref q4) (C := RX0) (T := TX0) (N := 6) hx hb hts hi0 hown hK hP 0 rfl rfl 4 (by decide) (hts (.fieldLink RX0 21 "SelfCheckingCircuit$Analysis" "tally" "[J") (by decide +kernel)) (fun _ h9 => h9) rfl dX0_clearTally_8 ?_
    refine lv_iload_n hx hb dX0_clearTally_11 rfl (lv_at hl 0 rfl) ?_
    refine lv_lconst (v := 0) hx hb dX0_clearTally_12 (by decide) ?_
    refine va_last hx hb hK hP hD hS 1 2 rfl rfl (by unfold vp_in; decide) dX0_clearTally_13 (fun H locs hP hD hS => ?_)
    rw [show (0 : Int32).toNatClampNeg = 0 from by decide] at hP hD
    have hP : va_P D vwCl [(z, .inr (0, [v0, v1, v2, v3, .ref q4, v5])), (q4, .inl (g.2.2.1, 3, .inr (.inl (vp_updL tl 0 0))))] H := hP
    have hD : va_D A [(z, .inr (0, [v0, v1, v2, v3, .ref q4, v5])), (q4, .inl (g.2.2.1, 3, .inr (.inl (vp_updL tl 0 0))))] := hD
    refine lv_iinc (v := 1) (lv' := [(1, .int 1), (0, .ref z)]) hx hb dX0_clearTally_14 hl (k := 0) rfl (by decide) (by decide) rfl (fun ls hl => ?_)
    refine lv_goto (tgt := 2) hx hb dX0_clearTally_17 (by decide) ?_
    refine lv_iload_n hx hb dX0_clearTally_2 rfl (lv_at hl 0 rfl) ?_
    refine lv_iconst (v := 3) hx hb dX0_clearTally_3 (by decide) ?_
    refine lv_icmp_ge (tgt := 20) hx hb dX0_clearTally_4 (by decide) (fun c_2 => ?_) (fun c_2 => ?_)
    · have c_2h : (3 : Int32) ≤ (1 : Int32) := c_2
      exact absurd c_2 (by decide)
    · have c_2h : ¬ (3 : Int32) ≤ (1 : Int32) := c_2
      refine lv_aload_n hx hb dX0_clearTally_7 rfl (lv_at hl 1 rfl) ?_
      refine va_get (D := D) (ci := 0) (v := .ref q4) (C := RX0) (T := TX0) (N := 6) hx hb hts hi0 hown hK hP 0 rfl rfl 4 (by decide) (hts (.fieldLink RX0 21 "SelfCheckingCircuit$Analysis" "tally" "[J") (by decide +kernel)) (fun _ h9 => h9) rfl dX0_clearTally_8 ?_
      refine lv_iload_n hx hb dX0_clearTally_11 rfl (lv_at hl 0 rfl) ?_
      refine lv_lconst (v := 0) hx hb dX0_clearTally_12 (by decide) ?_
      refine va_last hx hb hK hP hD hS 1 2 rfl rfl (by unfold vp_in; decide) dX0_clearTally_13 (fun H locs hP hD hS => ?_)
      rw [show (1 : Int32).toNatClampNeg = 1 from by decide] at hP hD
      have hP : va_P D vwCl [(z, .inr (0, [v0, v1, v2, v3, .ref q4, v5])), (q4, .inl (g.2.2.1, 3, .inr (.inl (vp_updL (vp_updL tl 0 0) 1 0))))] H := hP
      have hD : va_D A [(z, .inr (0, [v0, v1, v2, v3, .ref q4, v5])), (q4, .inl (g.2.2.1, 3, .inr (.inl (vp_updL (vp_updL tl 0 0) 1 0))))] := hD
      refine lv_iinc (v := 2) (lv' := [(1, .int 2), (0, .ref z)]) hx hb dX0_clearTally_14 hl (k := 0) rfl (by decide) (by decide) rfl (fun ls hl => ?_)
      refine lv_goto (tgt := 2) hx hb dX0_clearTally_17 (by decide) ?_
      refine lv_iload_n hx hb dX0_clearTally_2 rfl (lv_at hl 0 rfl) ?_
      refine lv_iconst (v := 3) hx hb dX0_clearTally_3 (by decide) ?_
      refine lv_icmp_ge (tgt := 20) hx hb dX0_clearTally_4 (by decide) (fun c_3 => ?_) (fun c_3 => ?_)
      · have c_3h : (3 : Int32) ≤ (2 : Int32) := c_3
        exact absurd c_3 (by decide)
      · have c_3h : ¬ (3 : Int32) ≤ (2 : Int32) := c_3
        refine lv_aload_n hx hb dX0_clearTally_7 rfl (lv_at hl 1 rfl) ?_
        refine va_get (D := D) (ci := 0) (v := .ref q4) (C := RX0) (T := TX0) (N := 6) hx hb hts hi0 hown hK hP 0 rfl rfl 4 (by decide) (hts (.fieldLink RX0 21 "SelfCheckingCircuit$Analysis" "tally" "[J") (by decide +kernel)) (fun _ h9 => h9) rfl dX0_clearTally_8 ?_
        refine lv_iload_n hx hb dX0_clearTally_11 rfl (lv_at hl 0 rfl) ?_
        refine lv_lconst (v := 0) hx hb dX0_clearTally_12 (by decide) ?_
        refine va_last hx hb hK hP hD hS 1 2 rfl rfl (by unfold vp_in; decide) dX0_clearTally_13 (fun H locs hP hD hS => ?_)
        rw [show (2 : Int32).toNatClampNeg = 2 from by decide] at hP hD
        have hP : va_P D vwCl [(z, .inr (0, [v0, v1, v2, v3, .ref q4, v5])), (q4, .inl (g.2.2.1, 3, .inr (.inl (vp_updL (vp_updL (vp_updL tl 0 0) 1 0) 2 0))))] H := hP
        have hD : va_D A [(z, .inr (0, [v0, v1, v2, v3, .ref q4, v5])), (q4, .inl (g.2.2.1, 3, .inr (.inl (vp_updL (vp_updL (vp_updL tl 0 0) 1 0) 2 0))))] := hD
        refine lv_iinc (v := 3) (lv' := [(1, .int 3), (0, .ref z)]) hx hb dX0_clearTally_14 hl (k := 0) rfl (by decide) (by decide) rfl (fun ls hl => ?_)
        refine lv_goto (tgt := 2) hx hb dX0_clearTally_17 (by decide) ?_
        refine lv_iload_n hx hb dX0_clearTally_2 rfl (lv_at hl 0 rfl) ?_
        refine lv_iconst (v := 3) hx hb dX0_clearTally_3 (by decide) ?_
        refine lv_icmp_ge (tgt := 20) hx hb dX0_clearTally_4 (by decide) (fun c_4 => ?_) (fun c_4 => ?_)
        · have c_4h : (3 : Int32) ≤ (3 : Int32) := c_4
          have hP9 := hP.sub (ws' := [(z, .inr (0, [v0, v1, v2, v3, .ref q4, v5])), (q4, .inl (g.2.2.1, 3, .inr (.inl (vp_updL (vp_updL (vp_updL tl 0 0) 1 0) 2 0))))]) [0, 1] rfl
          have hD9 := hD.sub (ws' := [(z, .inr (0, [v0, v1, v2, v3, .ref q4, v5])), (q4, .inl (g.2.2.1, 3, .inr (.inl (vp_updL (vp_updL (vp_updL tl 0 0) 1 0) 2 0))))]) [0, 1] (by decide) rfl
          exact W.vret hx hb hr (fun tt ht hW => ⟨⟨(vp_updL (vp_updL (vp_updL tl 0 0) 1 0) 2 0), rfl, by simp [vp_updL], by rw [ht]; exact hP9, hD9⟩, hS.F ht⟩) hS.2.2 dX0_clearTally_20
        · have c_4h : ¬ (3 : Int32) ≤ (3 : Int32) := c_4
          exact absurd c_4 (by decide)
set_option maxHeartbeats 4000000 in
set_option maxRecDepth 100000 in
theorem c0_addToTally (l : Launch) (D : va_G) (g : hk_G) (ti : Nat) (sz : Nat) (z : Nat) (v0 : Value) (v1 : Value) (v2 : Value) (v3 : Value) (v5 : Value) (q4 : Nat) (tl : Nat → Int64) (x : Int64)  : Met l yX0_addToTally wsX0_addToTally ({ frames := 0, cells := 0, slots := 0, locals := 0 }) (va_Pc [.ref z, .long x] (hk_In D g ti [(z, .inr (0, [v0, v1, v2, v3, .ref q4, v5])), (q4, .inl (g.2.2.1, 3, .inr (.inl tl)))] sz)) (va_Qv (S := Nat → Int64) (fun f' => f' 0 = tl 0 ^^^ x ∧ f' 1 = tl 1 ^^^ (x &&& tl 0) ∧ f' 2 = tl 2 ^^^ ((x &&& tl 0) &&& tl 1)) (fun u => hk_Out D (va_A [(z, .inr (0, [v0, v1, v2, v3, .ref q4, v5])), (q4, .inl (g.2.2.1, 3, .inr (.inl tl)))] sz) (match u with | f' => [(z, .inr (0, [v0, v1, v2, v3, .ref q4, v5])), (q4, .inl (g.2.2.1, 3, .inr (.inl f')))])) (va_A [(z, .inr (0, [v0, v1, v2, v3, .ref q4, v5])), (q4, .inl (g.2.2.1, 3, .inr (.inl tl)))] sz)) 0 0 (va_A [(z, .inr (0, [v0, v1, v2, v3, .ref q4, v5])), (q4, .inl (g.2.2.1, 3, .inr (.inl tl)))] sz) := by
  refine Met.ofW (cc := cX0_addToTally) (maxL := 8) (ret := none) (by decide) rfl ?_
  intro p e s m args below meth c s₁ Bd hml hv
  obtain ⟨rfl, hsz, hP, hD0, hE⟩ := hv
  have hx := Bd.exec
  have hb := Bd.bytes
  have hr := Bd.returns
  have hts := atoms_spec (ws := wsX0_addToTally) Bd.pre
  have hown : s.vm.findClass RX0 = some m.cls := findClass_of_methodNamed Bd.named
  have hlocks := Bd.notSynchronized
  have hK := hE.1
  have hi0 : ∀ w ∈ wsX00, w ∈ wsX0_addToTally := fun w h => List.mem_cons_of_mem _ (List.mem_append_right _ h)
  subst hsz
  have hD := hD0.self (sz := s.heap.size)
  generalize hAe : va_A [(z, .inr (0, [v0, v1, v2, v3, .ref q4, v5])), (q4, .inl (g.2.2.1, 3, .inr (.inl tl)))] s.heap.size = A at hD hE ⊢
  have hA : ∀ q : Nat, s.heap.size ≤ q → A q := fun q h => by rw [← hAe]; exact Or.inr h
  have hS : va_S A s.heap s.heap [] := va_S.rf
  have hl := lv_entry ([.ref z, .long x]) (n := 8) (Nat.le_of_ble_eq_true rfl)
  rw [lg_entry_eq]
  generalize (lg_sl ([.ref z, .long x]) ++ List.replicate (8 - (lg_sl ([.ref z, .long x])).length) Slot.unset).toArray = ls at hl ⊢
  have hl : lv_has ls 8 [(0, .ref z), (1, .long x)] := hl
  refine lv_lload_n hx hb dX0_addToTally_0 rfl (lv_at hl 1 rfl) ?_
  refine lv_lstore_n (lv' := [(3, .long x), (0, .ref z), (1, .long x)]) hx hb dX0_addToTally_1 rfl hl (by decide) rfl (fun ls hl => ?_)
  refine lv_iconst (v := 0) hx hb dX0_addToTally_2 (by decide) ?_
  refine lv_istore (lv' := [(5, .int 0), (3, .long x), (0, .ref z), (1, .long x)]) hx hb dX0_addToTally_3 hl (by decide) rfl (fun ls hl => ?_)
  refine lv_iload hx hb dX0_addToTally_5 (lv_at hl 0 rfl) ?_
  refine lv_iconst (v := 3) hx hb dX0_addToTally_7 (by decide) ?_
  refine lv_icmp_ge (tgt := 42) hx hb dX0_addToTally_8 (by decide) (fun c_1 => ?_) (fun c_1 => ?_)
  · have c_1h : (3 : Int32) ≤ (0 : Int32) := c_1
    exact absurd c_1 (by decide)
  · have c_1h : ¬ (3 : Int32) ≤ (0 : Int32) := c_1
    refine lv_aload_n hx hb dX0_addToTally_11 rfl (lv_at hl 2 rfl) ?_
    refine va_get (D := D) (ci := 0) (v := .ref q4) (C := RX0) (T := TX0) (N := 6) hx hb hts hi0 hown hK hP 0 rfl rfl 4 (by decide) (hts (.fieldLink RX0 21 "SelfCheckingCircuit$Analysis" "tally" "[J") (by decide +kernel)) (fun _ h9 => h9) rfl dX0_addToTally_12 ?_
    refine lv_iload hx hb dX0_addToTally_15 (lv_at hl 0 rfl) ?_
    refine va_lald hx hb hK hP 1 2 rfl rfl (by unfold vp_in; decide) dX0_addToTally_17 ?_
    refine hk_tl (tl 0) (congrArg tl (by decide)) ?_
    refine lv_lstore (lv' := [(6, .long (tl 0)), (5, .int 0), (3, .long x), (0, .ref z), (1, .long x)]) hx hb dX0_addToTally_18 hl (by decide) rfl (fun ls hl => ?_)
    refine lv_aload_n hx hb dX0_addToTally_20 rfl (lv_at hl 3 rfl) ?_
    refine va_get (D := D) (ci := 0) (v := .ref q4) (C := RX0) (T := TX0) (N := 6) hx hb hts hi0 hown hK hP 0 rfl rfl 4 (by decide) (hts (.fieldLink RX0 21 "SelfCheckingCircuit$Analysis" "tally" "[J") (by decide +kernel)) (fun _ h9 => h9) rfl dX0_addToTally_21 ?_
    refine lv_iload hx hb dX0_addToTally_24 (lv_at hl 1 rfl) ?_
    refine lv_lload hx hb dX0_addToTally_26 (lv_at hl 0 rfl) ?_
    refine lv_lload_n hx hb dX0_addToTally_28 rfl (lv_at hl 2 rfl) ?_
    refine lv_lxor hx hb dX0_addToTally_29 ?_
    refine va_last hx hb hK hP hD hS 1 2 rfl rfl (by unfold vp_in; decide) dX0_addToTally_30 (fun H locs hP hD hS => ?_)
    rw [show (0 : Int32).toNatClampNeg = 0 from by decide] at hP hD
    have hP : va_P D vwCl [(z, .inr (0, [v0, v1, v2, v3, .ref q4, v5])), (q4, .inl (g.2.2.1, 3, .inr (.inl (vp_updL tl 0 ((tl 0) ^^^ x)))))] H := hP
    have hD : va_D A [(z, .inr (0, [v0, v1, v2, v3, .ref q4, v5])), (q4, .inl (g.2.2.1, 3, .inr (.inl (vp_updL tl 0 ((tl 0) ^^^ x)))))] := hD
    refine lv_lload_n hx hb dX0_addToTally_31 rfl (lv_at hl 2 rfl) ?_
    refine lv_lload hx hb dX0_addToTally_32 (lv_at hl 0 rfl) ?_
    refine lv_land hx hb dX0_addToTally_34 ?_
    refine lv_lstore_n (lv' := [(3, .long (x &&& (tl 0))), (6, .long (tl 0)), (5, .int 0), (0, .ref z), (1, .long x)]) hx hb dX0_addToTally_35 rfl hl (by decide) rfl (fun ls hl => ?_)
    refine lv_iinc (v := 1) (lv' := [(5, .int 1), (3, .long (x &&& (tl 0))), (6, .long (tl 0)), (0, .ref z), (1, .long x)]) hx hb dX0_addToTally_36 hl (k := 2) rfl (by decide) (by decide) rfl (fun ls hl => ?_)
    refine lv_goto (tgt := 5) hx hb dX0_addToTally_39 (by decide) ?_
    refine lv_iload hx hb dX0_addToTally_5 (lv_at hl 0 rfl) ?_
    refine lv_iconst (v := 3) hx hb dX0_addToTally_7 (by decide) ?_
    refine lv_icmp_ge (tgt := 42) hx hb dX0_addToTally_8 (by decide) (fun c_2 => ?_) (fun c_2 => ?_)
    · have c_2h : (3 : Int32) ≤ (1 : Int32) := c_2
      exact absurd c_2 (by decide)
    · have c_2h : ¬ (3 : Int32) ≤ (1 : Int32) := c_2
      refine lv_aload_n hx hb dX0_addToTally_11 rfl (lv_at hl 3 rfl) ?_
      refine va_get (D := D) (ci := 0) (v := .ref q4) (C := RX0) (T := TX0) (N := 6) hx hb hts hi0 hown hK hP 0 rfl rfl 4 (by decide) (hts (.fieldLink RX0 21 "SelfCheckingCircuit$Analysis" "tally" "[J") (by decide +kernel)) (fun _ h9 => h9) rfl dX0_addToTally_12 ?_
      refine lv_iload hx hb dX0_addToTally_15 (lv_at hl 0 rfl) ?_
      refine va_lald hx hb hK hP 1 2 rfl rfl (by unfold vp_in; decide) dX0_addToTally_17 ?_
      refine hk_tl ((vp_updL tl 0 ((tl 0) ^^^ x)) 1) (congrArg (vp_updL tl 0 ((tl 0) ^^^ x)) (by decide)) ?_
      refine lv_lstore (lv' := [(6, .long ((vp_updL tl 0 ((tl 0) ^^^ x)) 1)), (5, .int 1), (3, .long (x &&& (tl 0))), (0, .ref z), (1, .long x)]) hx hb dX0_addToTally_18 hl (by decide) rfl (fun ls hl => ?_)
      refine lv_aload_n hx hb dX0_addToTally_20 rfl (lv_at hl 3 rfl) ?_
      refine va_get (D := D) (ci := 0) (v := .ref q4) (C := RX0) (T := TX0) (N := 6) hx hb hts hi0 hown hK hP 0 rfl rfl 4 (by decide) (hts (.fieldLink RX0 21 "SelfCheckingCircuit$Analysis" "tally" "[J") (by decide +kernel)) (fun _ h9 => h9) rfl dX0_addToTally_21 ?_
      refine lv_iload hx hb dX0_addToTally_24 (lv_at hl 1 rfl) ?_
      refine lv_lload hx hb dX0_addToTally_26 (lv_at hl 0 rfl) ?_
      refine lv_lload_n hx hb dX0_addToTally_28 rfl (lv_at hl 2 rfl) ?_
      refine lv_lxor hx hb dX0_addToTally_29 ?_
      refine va_last hx hb hK hP hD hS 1 2 rfl rfl (by unfold vp_in; decide) dX0_addToTally_30 (fun H locs hP hD hS => ?_)
      rw [show (1 : Int32).toNatClampNeg = 1 from by decide] at hP hD
      have hP : va_P D vwCl [(z, .inr (0, [v0, v1, v2, v3, .ref q4, v5])), (q4, .inl (g.2.2.1, 3, .inr (.inl (vp_updL (vp_updL tl 0 ((tl 0) ^^^ x)) 1 (((vp_updL tl 0 ((tl 0) ^^^ x)) 1) ^^^ (x &&& (tl 0)))))))] H := hP
      have hD : va_D A [(z, .inr (0, [v0, v1, v2, v3, .ref q4, v5])), (q4, .inl (g.2.2.1, 3, .inr (.inl (vp_updL (vp_updL tl 0 ((tl 0) ^^^ x)) 1 (((vp_updL tl 0 ((tl 0) ^^^ x)) 1) ^^^ (x &&& (tl 0)))))))] := hD
      refine lv_lload_n hx hb dX0_addToTally_31 rfl (lv_at hl 2 rfl) ?_
      refine lv_lload hx hb dX0_addToTally_32 (lv_at hl 0 rfl) ?_
      refine lv_land hx hb dX0_addToTally_34 ?_
      refine lv_lstore_n (lv' := [(3, .long ((x &&& (tl 0)) &&& ((vp_updL tl 0 ((tl 0) ^^^ x)) 1))), (6, .long ((vp_updL tl 0 ((tl 0) ^^^ x)) 1)), (5, .int 1), (0, .ref z), (1, .long x)]) hx hb dX0_addToTally_35 rfl hl (by decide) rfl (fun ls hl => ?_)
      refine lv_iinc (v := 2) (lv' := [(5, .int 2), (3, .long ((x &&& (tl 0)) &&& ((vp_updL tl 0 ((tl 0) ^^^ x)) 1))), (6, .long ((vp_updL tl 0 ((tl 0) ^^^ x)) 1)), (0, .ref z), (1, .long x)]) hx hb dX0_addToTally_36 hl (k := 2) rfl (by decide) (by decide) rfl (fun ls hl => ?_)
      refine lv_goto (tgt := 5) hx hb dX0_addToTally_39 (by decide) ?_
      refine lv_iload hx hb dX0_addToTally_5 (lv_at hl 0 rfl) ?_
      refine lv_iconst (v := 3) hx hb dX0_addToTally_7 (by decide) ?_
      refine lv_icmp_ge (tgt := 42) hx hb dX0_addToTally_8 (by decide) (fun c_3 => ?_) (fun c_3 => ?_)
      · have c_3h : (3 : Int32) ≤ (2 : Int32) := c_3
        exact absurd c_3 (by decide)
      · have c_3h : ¬ (3 : Int32) ≤ (2 : Int32) := c_3
        refine lv_aload_n hx hb dX0_addToTally_11 rfl (lv_at hl 3 rfl) ?_
        refine va_get (D := D) (ci := 0) (v := .ref q4) (C := RX0) (T := TX0) (N := 6) hx hb hts hi0 hown hK hP 0 rfl rfl 4 (by decide) (hts (.fieldLink RX0 21 "SelfCheckingCircuit$Analysis" "tally" "[J") (by decide +kernel)) (fun _ h9 => h9) rfl dX0_addToTally_12 ?_
        refine lv_iload hx hb dX0_addToTally_15 (lv_at hl 0 rfl) ?_
        refine va_lald hx hb hK hP 1 2 rfl rfl (by unfold vp_in; decide) dX0_addToTally_17 ?_
        refine hk_tl ((vp_updL (vp_updL tl 0 ((tl 0) ^^^ x)) 1 (((vp_updL tl 0 ((tl 0) ^^^ x)) 1) ^^^ (x &&& (tl 0)))) 2) (congrArg (vp_updL (vp_updL tl 0 ((tl 0) ^^^ x)) 1 (((vp_updL tl 0 ((tl 0) ^^^ x)) 1) ^^^ (x &&& (tl 0)))) (by decide)) ?_
        refine lv_lstore (lv' := [(6, .long ((vp_updL (vp_updL tl 0 ((tl 0) ^^^ x)) 1 (((vp_updL tl 0 ((tl 0) ^^^ x)) 1) ^^^ (x &&& (tl 0)))) 2)), (5, .int 2), (3, .long ((x &&& (tl 0)) &&& ((vp_updL tl 0 ((tl 0) ^^^ x)) 1))), (0, .ref z), (1, .long x)]) hx hb dX0_addToTally_18 hl (by decide) rfl (fun ls hl => ?_)
        refine lv_aload_n hx hb dX0_addToTally_20 rfl (lv_at hl 3 rfl) ?_
        refine va_get (D := D) (ci := 0) (v := .ref q4) (C := RX0) (T := TX0) (N := 6) hx hb hts hi0 hown hK hP 0 rfl rfl 4 (by decide) (hts (.fieldLink RX0 21 "SelfCheckingCircuit$Analysis" "tally" "[J") (by decide +kernel)) (fun _ h9 => h9) rfl dX0_addToTally_21 ?_
        refine lv_iload hx hb dX0_addToTally_24 (lv_at hl 1 rfl) ?_
        refine lv_lload hx hb dX0_addToTally_26 (lv_at hl 0 rfl) ?_
        refine lv_lload_n hx hb dX0_addToTally_28 rfl (lv_at hl 2 rfl) ?_
        refine lv_lxor hx hb dX0_addToTally_29 ?_
        refine va_last hx hb hK hP hD hS 1 2 rfl rfl (by unfold vp_in; decide) dX0_addToTally_30 (fun H locs hP hD hS => ?_)
        rw [show (2 : Int32).toNatClampNeg = 2 from by decide] at hP hD
        have hP : va_P D vwCl [(z, .inr (0, [v0, v1, v2, v3, .ref q4, v5])), (q4, .inl (g.2.2.1, 3, .inr (.inl (vp_updL (vp_updL (vp_updL tl 0 ((tl 0) ^^^ x)) 1 (((vp_updL tl 0 ((tl 0) ^^^ x)) 1) ^^^ (x &&& (tl 0)))) 2 (((vp_updL (vp_updL tl 0 ((tl 0) ^^^ x)) 1 (((vp_updL tl 0 ((tl 0) ^^^ x)) 1) ^^^ (x &&& (tl 0)))) 2) ^^^ ((x &&& (tl 0)) &&& ((vp_updL tl 0 ((tl 0) ^^^ x)) 1)))))))] H := hP
        have hD : va_D A [(z, .inr (0, [v0, v1, v2, v3, .ref q4, v5])), (q4, .inl (g.2.2.1, 3, .inr (.inl (vp_updL (vp_updL (vp_updL tl 0 ((tl 0) ^^^ x)) 1 (((vp_updL tl 0 ((tl 0) ^^^ x)) 1) ^^^ (x &&& (tl 0)))) 2 (((vp_updL (vp_updL tl 0 ((tl 0) ^^^ x)) 1 (((vp_updL tl 0 ((tl 0) ^^^ x)) 1) ^^^ (x &&& (tl 0)))) 2) ^^^ ((x &&& (tl 0)) &&& ((vp_updL tl 0 ((tl 0) ^^^ x)) 1)))))))] := hD
        refine lv_lload_n hx hb dX0_addToTally_31 rfl (lv_at hl 2 rfl) ?_
        refine lv_lload hx hb dX0_addToTally_32 (lv_at hl 0 rfl) ?_
        refine lv_land hx hb dX0_addToTally_34 ?_
        refine lv_lstore_n (lv' := [(3, .long (((x &&& (tl 0)) &&& ((vp_updL tl 0 ((tl 0) ^^^ x)) 1)) &&& ((vp_updL (vp_updL tl 0 ((tl 0) ^^^ x)) 1 (((vp_updL tl 0 ((tl 0) ^^^ x)) 1) ^^^ (x &&& (tl 0)))) 2))), (6, .long ((vp_updL (vp_updL tl 0 ((tl 0) ^^^ x)) 1 (((vp_updL tl 0 ((tl 0) ^^^ x)) 1) ^^^ (x &&& (tl 0)))) 2)), (5, .int 2), (0, .ref z), (1, .long x)]) hx hb dX0_addToTally_35 rfl hl (by decide) rfl (fun ls hl => ?_)
        refine lv_iinc (v := 3) (lv' := [(5, .int 3), (3, .long (((x &&& (tl 0)) &&& ((vp_updL tl 0 ((tl 0) ^^^ x)) 1)) &&& ((vp_updL (vp_updL tl 0 ((tl 0) ^^^ x)) 1 (((vp_updL tl 0 ((tl 0) ^^^ x)) 1) ^^^ (x &&& (tl 0)))) 2))), (6, .long ((vp_updL (vp_updL tl 0 ((tl 0) ^^^ x)) 1 (((vp_updL tl 0 ((tl 0) ^^^ x)) 1) ^^^ (x &&& (tl 0)))) 2)), (0, .ref z), (1, .long x)]) hx hb dX0_addToTally_36 hl (k := 2) rfl (by decide) (by decide) rfl (fun ls hl => ?_)
        refine lv_goto (tgt := 5) hx hb dX0_addToTally_39 (by decide) ?_
        refine lv_iload hx hb dX0_addToTally_5 (lv_at hl 0 rfl) ?_
        refine lv_iconst (v := 3) hx hb dX0_addToTally_7 (by decide) ?_
        refine lv_icmp_ge (tgt := 42) hx hb dX0_addToTally_8 (by decide) (fun c_4 => ?_) (fun c_4 => ?_)
        · have c_4h : (3 : Int32) ≤ (3 : Int32) := c_4
          have hP9 := hP.sub (ws' := [(z, .inr (0, [v0, v1, v2, v3, .ref q4, v5])), (q4, .inl (g.2.2.1, 3, .inr (.inl (vp_updL (vp_updL (vp_updL tl 0 ((tl 0) ^^^ x)) 1 (((vp_updL tl 0 ((tl 0) ^^^ x)) 1) ^^^ (x &&& (tl 0)))) 2 (((vp_updL (vp_updL tl 0 ((tl 0) ^^^ x)) 1 (((vp_updL tl 0 ((tl 0) ^^^ x)) 1) ^^^ (x &&& (tl 0)))) 2) ^^^ ((x &&& (tl 0)) &&& ((vp_updL tl 0 ((tl 0) ^^^ x)) 1)))))))]) [0, 1] rfl
          have hD9 := hD.sub (ws' := [(z, .inr (0, [v0, v1, v2, v3, .ref q4, v5])), (q4, .inl (g.2.2.1, 3, .inr (.inl (vp_updL (vp_updL (vp_updL tl 0 ((tl 0) ^^^ x)) 1 (((vp_updL tl 0 ((tl 0) ^^^ x)) 1) ^^^ (x &&& (tl 0)))) 2 (((vp_updL (vp_updL tl 0 ((tl 0) ^^^ x)) 1 (((vp_updL tl 0 ((tl 0) ^^^ x)) 1) ^^^ (x &&& (tl 0)))) 2) ^^^ ((x &&& (tl 0)) &&& ((vp_updL tl 0 ((tl 0) ^^^ x)) 1)))))))]) [0, 1] (by decide) rfl
          exact W.vret hx hb hr (fun tt ht hW => ⟨⟨(vp_updL (vp_updL (vp_updL tl 0 ((tl 0) ^^^ x)) 1 (((vp_updL tl 0 ((tl 0) ^^^ x)) 1) ^^^ (x &&& (tl 0)))) 2 (((vp_updL (vp_updL tl 0 ((tl 0) ^^^ x)) 1 (((vp_updL tl 0 ((tl 0) ^^^ x)) 1) ^^^ (x &&& (tl 0)))) 2) ^^^ ((x &&& (tl 0)) &&& ((vp_updL tl 0 ((tl 0) ^^^ x)) 1)))), rfl, by simp [vp_updL], by rw [ht]; exact hP9, hD9⟩, hS.F ht⟩) hS.2.2 dX0_addToTally_42
        · have c_4h : ¬ (3 : Int32) ≤ (3 : Int32) := c_4
          exact absurd c_4 (by decide)
set_option maxHeartbeats 4000000 in
set_option maxRecDepth 100000 in
theorem c0_inTwoRail (l : Launch) (D : va_G) (g : hk_G) (ti : Nat) (z : Nat) (v0 : Value) (v1 : Value) (v3 : Value) (v4 : Value) (v5 : Value) (q2 : Nat) (oc : Nat → Int64) (o : Nat) (ho : o ≤ 6) : Met l yX0_inTwoRail wsX0_inTwoRail ({ frames := 0, cells := 0, slots := 0, locals := 0 }) (va_Pc [.ref z, .int (nI o)] (hk_Ro D g ti [(z, .inr (0, [v0, v1, .ref q2, v3, v4, v5])), (q2, .inl (g.2.2.1, 6, .inr (.inl oc)))])) (vp_Sl (fun r => r = if o % 2 = 1 then 0 else trL oc (o / 2))) 0 0 (fun _ => False) := by
  refine Met.ofW (cc := cX0_inTwoRail) (maxL := 5) (ret := (some .long)) (by decide) rfl ?_
  intro p e s m args below meth c s₁ Bd hml hv
  obtain ⟨rfl, hP, hE⟩ := hv
  have hx := Bd.exec
  have hb := Bd.bytes
  have hr := Bd.returns
  have hts := atoms_spec (ws := wsX0_inTwoRail) Bd.pre
  have hown : s.vm.findClass RX0 = some m.cls := findClass_of_methodNamed Bd.named
  have hlocks := Bd.notSynchronized
  have hK := hE.1
  have hi0 : ∀ w ∈ wsX00, w ∈ wsX0_inTwoRail := fun w h => List.mem_cons_of_mem _ (List.mem_append_right _ h)
  have hS : va_S (fun _ => False) s.heap s.heap [] := va_S.rf
  have hl := lv_entry ([.ref z, .int (nI o)]) (n := 5) (Nat.le_of_ble_eq_true rfl)
  rw [lg_entry_eq]
  generalize (lg_sl ([.ref z, .int (nI o)]) ++ List.replicate (5 - (lg_sl ([.ref z, .int (nI o)])).length) Slot.unset).toArray = ls at hl ⊢
  have hl : lv_has ls 5 [(0, .ref z), (1, .int (nI o))] := hl
  refine lv_iload_n hx hb dX0_inTwoRail_0 rfl (lv_at hl 1 rfl) ?_
  refine lv_iconst (v := 1) hx hb dX0_inTwoRail_1 (by decide) ?_
  refine lv_iand hx hb dX0_inTwoRail_2 ?_
  refine lv_iconst (v := 1) hx hb dX0_inTwoRail_3 (by decide) ?_
  refine lv_icmp_ne (tgt := 9) hx hb dX0_inTwoRail_4 (by decide) (fun c_1 => ?_) (fun c_1 => ?_)
  · have c_1h : ¬ (nI o &&& (1 : Int32)) = (1 : Int32) := c_1
    refine lv_ldc2 (own := RX0) (v := (-1)) hx hb hown (hts (.constantLong RX0 56 (-1)) (by decide +kernel)) dX0_inTwoRail_9 ?_
    refine lv_lstore_n (lv' := [(2, .long (-1)), (0, .ref z), (1, .int (nI o))]) hx hb dX0_inTwoRail_12 rfl hl (by decide) rfl (fun ls hl => ?_)
    refine lv_iconst (v := 0) hx hb dX0_inTwoRail_13 (by decide) ?_
    refine lv_istore (lv' := [(4, .int 0), (2, .long (-1)), (0, .ref z), (1, .int (nI o))]) hx hb dX0_inTwoRail_14 hl (by decide) rfl (fun ls hl => ?_)
    have loop16 : ∀ (n : Nat) (i : Nat), (o - 2 * i) < n → (2 * i ≤ o) → ∀ ls : Array Slot, lv_has ls 5 [(4, .int (nI (2 * i))), (2, .long (trL oc i)), (0, .ref z), (1, .int (nI o))] → W p l e (headSpec wsX0_inTwoRail ({ frames := 0, cells := 0, slots := 0, locals := 0 })).room s m ([.ref z, .int (nI o)] : List Value).toArray below meth c s.heap [] 0 0 (MQ below (vp_Sl (fun r => r = if o % 2 = 1 then 0 else trL oc (o / 2))) ([.ref z, .int (nI o)] : List Value).toArray s 0 0 (fun _ => False)) (F0 m 16 ls []) := by
      intro n
      induction n with
      | zero => intro i hm; exact absurd hm (Nat.not_lt_zero _)
      | succ n ih_16 =>
        intro i hm_16 hi ls hl
        refine lv_iload hx hb dX0_inTwoRail_16 (lv_at hl 0 rfl) ?_
        refine lv_iconst (v := 1) hx hb dX0_inTwoRail_18 (by decide) ?_
        refine lv_iadd hx hb dX0_inTwoRail_19 ?_
        refine hk_ti (nI (2 * i + 1)) (nI_1 _) ?_
        refine lv_iload_n hx hb dX0_inTwoRail_20 rfl (lv_at hl 3 rfl) ?_
        refine lv_icmp_ge (tgt := 59) hx hb dX0_inTwoRail_21 (by decide) (fun c_2 => ?_) (fun c_2 => ?_)
        · have c_2h : nI o ≤ nI (2 * i + 1) := c_2
          refine lv_lload_n hx hb dX0_inTwoRail_59 rfl (lv_at hl 1 rfl) ?_
          exact W.lret (v := trL oc i) hx hb hr (fun tt ht hW => ⟨_, rfl, by rw [if_neg (fun q => c_1 ((hk_m1o o (by omega)).mpr q)), show o / 2 = i by have := hk_ge o c_2; have : ¬ o % 2 = 1 := fun q => c_1 ((hk_m1o o (by omega)).mpr q); omega], ht⟩) (fun _ h => by cases h) dX0_inTwoRail_60
        · have c_2h : ¬ nI o ≤ nI (2 * i + 1) := c_2
          refine lv_iload hx hb dX0_inTwoRail_24 (lv_at hl 0 rfl) ?_
          refine lv_iconst (v := 1) hx hb dX0_inTwoRail_26 (by decide) ?_
          refine lv_iadd hx hb dX0_inTwoRail_27 ?_
          refine hk_ti (nI (2 * i + 1)) (nI_1 _) ?_
          refine lv_bipush (v := 6) hx hb dX0_inTwoRail_28 (by decide) ?_
          refine lv_icmp_ge (tgt := 59) hx hb dX0_inTwoRail_30 (by decide) (fun c_3 => ?_) (fun c_3 => ?_)
          · have c_3h : (6 : Int32) ≤ nI (2 * i + 1) := c_3
            exact absurd (hk_ge 6 c_3) (by have := hk_nge o c_2; omega)
          · have c_3h : ¬ (6 : Int32) ≤ nI (2 * i + 1) := c_3
            refine lv_lload_n hx hb dX0_inTwoRail_33 rfl (lv_at hl 1 rfl) ?_
            refine lv_aload_n hx hb dX0_inTwoRail_34 rfl (lv_at hl 2 rfl) ?_
            refine va_get (D := D) (ci := 0) (v := .ref q2) (C := RX0) (T := TX0) (N := 6) hx hb hts hi0 hown hK hP 0 rfl rfl 2 (by decide) (hts (.fieldLink RX0 15 "SelfCheckingCircuit$Analysis" "outputColumns" "[J") (by decide +kernel)) (fun _ h9 => h9) rfl dX0_inTwoRail_35 ?_
            refine lv_iload hx hb dX0_inTwoRail_38 (lv_at hl 0 rfl) ?_
            refine va_lald hx hb hK hP 1 2 rfl rfl (vp_in_nI (N := 6) (by have := hk_nge o c_2; omega) (by decide)) dX0_inTwoRail_40 ?_
            refine hk_tl (oc (2 * i)) (congrArg oc (nI_clamp (by omega))) ?_
            refine lv_aload_n hx hb dX0_inTwoRail_41 rfl (lv_at hl 2 rfl) ?_
            refine va_get (D := D) (ci := 0) (v := .ref q2) (C := RX0) (T := TX0) (N := 6) hx hb hts hi0 hown hK hP 0 rfl rfl 2 (by decide) (hts (.fieldLink RX0 15 "SelfCheckingCircuit$Analysis" "outputColumns" "[J") (by decide +kernel)) (fun _ h9 => h9) rfl dX0_inTwoRail_42 ?_
            refine lv_iload hx hb dX0_inTwoRail_45 (lv_at hl 0 rfl) ?_
            refine lv_iconst (v := 1) hx hb dX0_inTwoRail_47 (by decide) ?_
            refine lv_iadd hx hb dX0_inTwoRail_48 ?_
            refine hk_ti (nI (2 * i + 1)) (nI_1 _) ?_
            refine va_lald hx hb hK hP 1 2 rfl rfl (vp_in_nI (N := 6) (by have := hk_nge o c_2; omega) (by decide)) dX0_inTwoRail_49 ?_
            refine hk_tl (oc (2 * i + 1)) (congrArg oc (nI_clamp (by omega))) ?_
            refine lv_lxor hx hb dX0_inTwoRail_50 ?_
            refine lv_land hx hb dX0_inTwoRail_51 ?_
            refine lv_lstore_n (lv' := [(2, .long (trL oc i &&& ((oc (2 * i)) ^^^ (oc (2 * i + 1))))), (4, .int (nI (2 * i))), (0, .ref z), (1, .int (nI o))]) hx hb dX0_inTwoRail_52 rfl hl (by decide) rfl (fun ls hl => ?_)
            refine lv_iinc (v := (nI (2 * (i + 1)))) (lv' := [(4, .int (nI (2 * (i + 1)))), (2, .long (trL oc i &&& ((oc (2 * i)) ^^^ (oc (2 * i + 1))))), (0, .ref z), (1, .int (nI o))]) hx hb dX0_inTwoRail_53 hl (k := 1) rfl (nI_add (2 * i) 2) (by decide) rfl (fun ls hl => ?_)
            refine lv_goto (tgt := 16) hx hb dX0_inTwoRail_56 (by decide) ?_
            have hlt : 2 * i + 1 < o := hk_nge o c_2
            exact ih_16 (i + 1) (by omega) (by omega) _ (lv_sub hl [0, 1, 2, 3] rfl)
    exact loop16 _ 0 (Nat.lt_succ_self _) (Nat.zero_le _) _ (lv_sub hl [0, 1, 2, 3] rfl)
  · have c_1h : (nI o &&& (1 : Int32)) = (1 : Int32) := c_1
    refine lv_lconst (v := 0) hx hb dX0_inTwoRail_7 (by decide) ?_
    exact W.lret (v := 0) hx hb hr (fun tt ht hW => ⟨_, rfl, by rw [if_pos ((hk_m1o o (by omega)).mp c_1)], ht⟩) (fun _ h => by cases h) dX0_inTwoRail_8
set_option maxHeartbeats 4000000 in
set_option maxRecDepth 100000 in
theorem c0_inConstantWeight (l : Launch) (D : va_G) (g : hk_G) (ti : Nat) (sz : Nat) (z : Nat) (v0 : Value) (v1 : Value) (v3 : Value) (v5 : Value) (q2 : Nat) (oc : Nat → Int64) (q4 : Nat) (tl : Nat → Int64) (o : Nat) (wt : Nat) (ho : o ≤ 6) (hwt : wt ≤ 6) : Met l yX0_inConstantWeight wsX0_inConstantWeight ({ frames := 1, cells := 0, slots := 0, locals := 27 }) (va_Pc [.ref z, .int (nI o), .int (nI wt)] (hk_In D g ti [(z, .inr (0, [v0, v1, .ref q2, v3, .ref q4, v5])), (q2, .inl (g.2.2.1, 6, .inr (.inl oc))), (q4, .inl (g.2.2.1, 3, .inr (.inl tl)))] sz)) (va_Ql (S := Nat → Int64) (fun r _ => ∀ w, w < 64 → lb r w = decide (ct (fun k => lb (oc k) w) o = wt)) (fun u => hk_Out D (va_A [(z, .inr (0, [v0, v1, .ref q2, v3, .ref q4, v5])), (q2, .inl (g.2.2.1, 6, .inr (.inl oc))), (q4, .inl (g.2.2.1, 3, .inr (.inl tl)))] sz) (match u with | f' => [(z, .inr (0, [v0, v1, .ref q2, v3, .ref q4, v5])), (q2, .inl (g.2.2.1, 6, .inr (.inl oc))), (q4, .inl (g.2.2.1, 3, .inr (.inl f')))])) (va_A [(z, .inr (0, [v0, v1, .ref q2, v3, .ref q4, v5])), (q2, .inl (g.2.2.1, 6, .inr (.inl oc))), (q4, .inl (g.2.2.1, 3, .inr (.inl tl)))] sz)) 0 0 (va_A [(z, .inr (0, [v0, v1, .ref q2, v3, .ref q4, v5])), (q2, .inl (g.2.2.1, 6, .inr (.inl oc))), (q4, .inl (g.2.2.1, 3, .inr (.inl tl)))] sz) := by
  refine Met.ofW (cc := cX0_inConstantWeight) (maxL := 6) (ret := (some .long)) (by decide) rfl ?_
  intro p e s m args below meth c s₁ Bd hml hv
  obtain ⟨rfl, hsz, hP, hD0, hE⟩ := hv
  have hx := Bd.exec
  have hb := Bd.bytes
  have hr := Bd.returns
  have hts := atoms_spec (ws := wsX0_inConstantWeight) Bd.pre
  have hown : s.vm.findClass RX0 = some m.cls := findClass_of_methodNamed Bd.named
  have hlocks := Bd.notSynchronized
  have hK := hE.1
  have hi0 : ∀ w ∈ wsX00, w ∈ wsX0_inConstantWeight := fun w h => List.mem_cons_of_mem _ (List.mem_append_right _ h)
  subst hsz
  have hD := hD0.self (sz := s.heap.size)
  generalize hAe : va_A [(z, .inr (0, [v0, v1, .ref q2, v3, .ref q4, v5])), (q2, .inl (g.2.2.1, 6, .inr (.inl oc))), (q4, .inl (g.2.2.1, 3, .inr (.inl tl)))] s.heap.size = A at hD hE ⊢
  have hA : ∀ q : Nat, s.heap.size ≤ q → A q := fun q h => by rw [← hAe]; exact Or.inr h
  have hS : va_S A s.heap s.heap [] := va_S.rf
  have hl := lv_entry ([.ref z, .int (nI o), .int (nI wt)]) (n := 6) (Nat.le_of_ble_eq_true rfl)
  rw [lg_entry_eq]
  generalize (lg_sl ([.ref z, .int (nI o), .int (nI wt)]) ++ List.replicate (6 - (lg_sl ([.ref z, .int (nI o), .int (nI wt)])).length) Slot.unset).toArray = ls at hl ⊢
  have hl : lv_has ls 6 [(0, .ref z), (1, .int (nI o)), (2, .int (nI wt))] := hl
  refine lv_aload_n hx hb dX0_inConstantWeight_0 rfl (lv_at hl 0 rfl) ?_
  refine hk_cmv (wr := [(q2, .inl (g.2.2.1, 6, .inr (.inl oc)))]) (va_runV (As := []) (rest := []) ⟨hx, hb, hml, hown, hts⟩ (c0_clearTally l D g ti _ z v0 v1 (.ref q2) v3 v5 q4 tl ) (cwV 0 hts gX0_inConstantWeight_X0_clearTally rfl rfl rfl (by decide +kernel) ⟨Nat.le_of_ble_eq_true rfl, Nat.le_of_ble_eq_true rfl⟩) (hk_inV hE hP hD hS hA 0 rfl rfl [0, 2] (by decide) rfl rfl) rfl rfl hl.1 rfl (lv_room (Nat.le_of_ble_eq_true rfl)) dX0_inConstantWeight_1 ⟨Nat.zero_le _, Nat.zero_le _⟩) hP hD hS hA [0, 2] [1] rfl rfl (by decide) (by decide) (fun tz H locs hr_2 hP hD hS => ?_)
  try dsimp only at hr_2
  have hP : va_P D vwCl [(q2, .inl (g.2.2.1, 6, .inr (.inl oc))), (z, .inr (0, [v0, v1, (.ref q2), v3, .ref q4, v5])), (q4, .inl (g.2.2.1, 3, .inr (.inl tz)))] H := hP
  have hD : va_D A [(q2, .inl (g.2.2.1, 6, .inr (.inl oc))), (z, .inr (0, [v0, v1, (.ref q2), v3, .ref q4, v5])), (q4, .inl (g.2.2.1, 3, .inr (.inl tz)))] := hD
  refine lv_iconst (v := 0) hx hb dX0_inConstantWeight_4 (by decide) ?_
  refine lv_istore_n (lv' := [(3, .int 0), (0, .ref z), (1, .int (nI o)), (2, .int (nI wt))]) hx hb dX0_inConstantWeight_5 rfl hl (by decide) rfl (fun ls hl => ?_)
  have loop6 : ∀ (n : Nat) (i : Nat) (tf : Nat → Int64), (o - i) < n → (i ≤ o) → (tD tf (fun w => ct (fun k => lb (oc k) w) i)) → ∀ (H : Heap) (locs : List Loc), va_P D vwCl [(z, .inr (0, [v0, v1, .ref q2, v3, .ref q4, v5])), (q2, .inl (g.2.2.1, 6, .inr (.inl oc))), (q4, .inl (g.2.2.1, 3, .inr (.inl tf)))] H → va_D A [(z, .inr (0, [v0, v1, .ref q2, v3, .ref q4, v5])), (q2, .inl (g.2.2.1, 6, .inr (.inl oc))), (q4, .inl (g.2.2.1, 3, .inr (.inl tf)))] → va_S A s.heap H locs → ∀ ls : Array Slot, lv_has ls 6 [(3, .int (nI i)), (0, .ref z), (1, .int (nI o)), (2, .int (nI wt))] → W p l e (headSpec wsX0_inConstantWeight ({ frames := 1, cells := 0, slots := 0, locals := 27 })).room s m ([.ref z, .int (nI o), .int (nI wt)] : List Value).toArray below meth c H locs 0 0 (MQ below (va_Ql (S := Nat → Int64) (fun r _ => ∀ w, w < 64 → lb r w = decide (ct (fun k => lb (oc k) w) o = wt)) (fun u => hk_Out D A (match u with | f' => [(z, .inr (0, [v0, v1, .ref q2, v3, .ref q4, v5])), (q2, .inl (g.2.2.1, 6, .inr (.inl oc))), (q4, .inl (g.2.2.1, 3, .inr (.inl f')))])) A) ([.ref z, .int (nI o), .int (nI wt)] : List Value).toArray s 0 0 A) (F0 m 6 ls []) := by
    intro n
    induction n with
    | zero => intro i tf hm; exact absurd hm (Nat.not_lt_zero _)
    | succ n ih_6 =>
      intro i tf hm_6 hi hT H locs hP hD hS ls hl
      refine lv_iload_n hx hb dX0_inConstantWeight_6 rfl (lv_at hl 0 rfl) ?_
      refine lv_iload_n hx hb dX0_inConstantWeight_7 rfl (lv_at hl 2 rfl) ?_
      refine lv_icmp_ge (tgt := 33) hx hb dX0_inConstantWeight_8 (by decide) (fun c_3 => ?_) (fun c_3 => ?_)
      · have c_3h : nI o ≤ nI i := c_3
        refine lv_ldc2 (own := RX0) (v := (-1)) hx hb hown (hts (.constantLong RX0 56 (-1)) (by decide +kernel)) dX0_inConstantWeight_33 ?_
        refine lv_lstore_n (lv' := [(3, .long (-1)), (0, .ref z), (1, .int (nI o)), (2, .int (nI wt))]) hx hb dX0_inConstantWeight_36 rfl hl (by decide) rfl (fun ls hl => ?_)
        refine lv_iconst (v := 0) hx hb dX0_inConstantWeight_37 (by decide) ?_
        refine lv_istore (lv' := [(5, .int 0), (3, .long (-1)), (0, .ref z), (1, .int (nI o)), (2, .int (nI wt))]) hx hb dX0_inConstantWeight_38 hl (by decide) rfl (fun ls hl => ?_)
        refine lv_iload hx hb dX0_inConstantWeight_40 (lv_at hl 0 rfl) ?_
        refine lv_iconst (v := 3) hx hb dX0_inConstantWeight_42 (by decide) ?_
        refine lv_icmp_ge (tgt := 73) hx hb dX0_inConstantWeight_43 (by decide) (fun c_4 => ?_) (fun c_4 => ?_)
        · have c_4h : (3 : Int32) ≤ (0 : Int32) := c_4
          exact absurd c_4 (by decide)
        · have c_4h : ¬ (3 : Int32) ≤ (0 : Int32) := c_4
          refine lv_lload_n hx hb dX0_inConstantWeight_46 rfl (lv_at hl 1 rfl) ?_
          refine lv_aload_n hx hb dX0_inConstantWeight_47 rfl (lv_at hl 2 rfl) ?_
          refine va_get (D := D) (ci := 0) (v := .ref q4) (C := RX0) (T := TX0) (N := 6) hx hb hts hi0 hown hK hP 0 rfl rfl 4 (by decide) (hts (.fieldLink RX0 21 "SelfCheckingCircuit$Analysis" "tally" "[J") (by decide +kernel)) (fun _ h9 => h9) rfl dX0_inConstantWeight_48 ?_
          refine lv_iload hx hb dX0_inConstantWeight_51 (lv_at hl 0 rfl) ?_
          refine va_lald hx hb hK hP 2 2 rfl rfl (by unfold vp_in; decide) dX0_inConstantWeight_53 ?_
          refine hk_tl (tf 0) (congrArg tf (by decide)) ?_
          refine lv_iload_n hx hb dX0_inConstantWeight_54 rfl (lv_at hl 4 rfl) ?_
          refine lv_iload hx hb dX0_inConstantWeight_55 (lv_at hl 0 rfl) ?_
          refine hk_csl (va_runS (As := [.int (nI wt), .int 0]) (rest := [.long (tf 0), .long (-1)]) ⟨hx, hb, hml, hown, hts⟩ (c0_columnOfBit l D g ti (nI wt) 0 (by decide)) (va_cwS 2 hts gX0_inConstantWeight_X0_columnOfBit rfl rfl rfl (by decide +kernel) ⟨Nat.le_of_ble_eq_true rfl, Nat.le_of_ble_eq_true rfl⟩) (hk_roS hE hP hS [] rfl) rfl rfl hl.1 rfl (lv_room (Nat.le_of_ble_eq_true rfl)) dX0_inConstantWeight_57 ⟨Nat.zero_le _, Nat.zero_le _⟩) (fun r_5 hr_6 => ?_)
          subst hr_6
          refine lv_lxor hx hb dX0_inConstantWeight_60 ?_
          refine lv_ldc2 (own := RX0) (v := (-1)) hx hb hown (hts (.constantLong RX0 56 (-1)) (by decide +kernel)) dX0_inConstantWeight_61 ?_
          refine lv_lxor hx hb dX0_inConstantWeight_64 ?_
          refine lv_land hx hb dX0_inConstantWeight_65 ?_
          refine lv_lstore_n (lv' := [(3, .long ((-1 : Int64) &&& (((tf 0) ^^^ (bL (ib (nI wt) 0))) ^^^ (-1 : Int64)))), (5, .int 0), (0, .ref z), (1, .int (nI o)), (2, .int (nI wt))]) hx hb dX0_inConstantWeight_66 rfl hl (by decide) rfl (fun ls hl => ?_)
          refine lv_iinc (v := 1) (lv' := [(5, .int 1), (3, .long ((-1 : Int64) &&& (((tf 0) ^^^ (bL (ib (nI wt) 0))) ^^^ (-1 : Int64)))), (0, .ref z), (1, .int (nI o)), (2, .int (nI wt))]) hx hb dX0_inConstantWeight_67 hl (k := 1) rfl (by decide) (by decide) rfl (fun ls hl => ?_)
          refine lv_goto (tgt := 40) hx hb dX0_inConstantWeight_70 (by decide) ?_
          refine lv_iload hx hb dX0_inConstantWeight_40 (lv_at hl 0 rfl) ?_
          refine lv_iconst (v := 3) hx hb dX0_inConstantWeight_42 (by decide) ?_
          refine lv_icmp_ge (tgt := 73) hx hb dX0_inConstantWeight_43 (by decide) (fun c_7 => ?_) (fun c_7 => ?_)
          · have c_7h : (3 : Int32) ≤ (1 : Int32) := c_7
            exact absurd c_7 (by decide)
          · have c_7h : ¬ (3 : Int32) ≤ (1 : Int32) := c_7
            refine lv_lload_n hx hb dX0_inConstantWeight_46 rfl (lv_at hl 1 rfl) ?_
            refine lv_aload_n hx hb dX0_inConstantWeight_47 rfl (lv_at hl 2 rfl) ?_
            refine va_get (D := D) (ci := 0) (v := .ref q4) (C := RX0) (T := TX0) (N := 6) hx hb hts hi0 hown hK hP 0 rfl rfl 4 (by decide) (hts (.fieldLink RX0 21 "SelfCheckingCircuit$Analysis" "tally" "[J") (by decide +kernel)) (fun _ h9 => h9) rfl dX0_inConstantWeight_48 ?_
            refine lv_iload hx hb dX0_inConstantWeight_51 (lv_at hl 0 rfl) ?_
            refine va_lald hx hb hK hP 2 2 rfl rfl (by unfold vp_in; decide) dX0_inConstantWeight_53 ?_
            refine hk_tl (tf 1) (congrArg tf (by decide)) ?_
            refine lv_iload_n hx hb dX0_inConstantWeight_54 rfl (lv_at hl 4 rfl) ?_
            refine lv_iload hx hb dX0_inConstantWeight_55 (lv_at hl 0 rfl) ?_
            refine hk_csl (va_runS (As := [.int (nI wt), .int 1]) (rest := [.long (tf 1), .long ((-1 : Int64) &&& (((tf 0) ^^^ (bL (ib (nI wt) 0))) ^^^ (-1 : Int64)))]) ⟨hx, hb, hml, hown, hts⟩ (c0_columnOfBit l D g ti (nI wt) 1 (by decide)) (va_cwS 2 hts gX0_inConstantWeight_X0_columnOfBit rfl rfl rfl (by decide +kernel) ⟨Nat.le_of_ble_eq_true rfl, Nat.le_of_ble_eq_true rfl⟩) (hk_roS hE hP hS [] rfl) rfl rfl hl.1 rfl (lv_room (Nat.le_of_ble_eq_true rfl)) dX0_inConstantWeight_57 ⟨Nat.zero_le _, Nat.zero_le _⟩) (fun r_8 hr_9 => ?_)
            subst hr_9
            refine lv_lxor hx hb dX0_inConstantWeight_60 ?_
            refine lv_ldc2 (own := RX0) (v := (-1)) hx hb hown (hts (.constantLong RX0 56 (-1)) (by decide +kernel)) dX0_inConstantWeight_61 ?_
            refine lv_lxor hx hb dX0_inConstantWeight_64 ?_
            refine lv_land hx hb dX0_inConstantWeight_65 ?_
            refine lv_lstore_n (lv' := [(3, .long (((-1 : Int64) &&& (((tf 0) ^^^ (bL (ib (nI wt) 0))) ^^^ (-1 : Int64))) &&& (((tf 1) ^^^ (bL (ib (nI wt) 1))) ^^^ (-1 : Int64)))), (5, .int 1), (0, .ref z), (1, .int (nI o)), (2, .int (nI wt))]) hx hb dX0_inConstantWeight_66 rfl hl (by decide) rfl (fun ls hl => ?_)
            refine lv_iinc (v := 2) (lv' := [(5, .int 2), (3, .long (((-1 : Int64) &&& (((tf 0) ^^^ (bL (ib (nI wt) 0))) ^^^ (-1 : Int64))) &&& (((tf 1) ^^^ (bL (ib (nI wt) 1))) ^^^ (-1 : Int64)))), (0, .ref z), (1, .int (nI o)), (2, .int (nI wt))]) hx hb dX0_inConstantWeight_67 hl (k := 1) rfl (by decide) (by decide) rfl (fun ls hl => ?_)
            refine lv_goto (tgt := 40) hx hb dX0_inConstantWeight_70 (by decide) ?_
            refine lv_iload hx hb dX0_inConstantWeight_40 (lv_at hl 0 rfl) ?_
            refine lv_iconst (v := 3) hx hb dX0_inConstantWeight_42 (by decide) ?_
            refine lv_icmp_ge (tgt := 73) hx hb dX0_inConstantWeight_43 (by decide) (fun c_10 => ?_) (fun c_10 => ?_)
            · have c_10h : (3 : Int32) ≤ (2 : Int32) := c_10
              exact absurd c_10 (by decide)
            · have c_10h : ¬ (3 : Int32) ≤ (2 : Int32) := c_10
              refine lv_lload_n hx hb dX0_inConstantWeight_46 rfl (lv_at hl 1 rfl) ?_
              refine lv_aload_n hx hb dX0_inConstantWeight_47 rfl (lv_at hl 2 rfl) ?_
              refine va_get (D := D) (ci := 0) (v := .ref q4) (C := RX0) (T := TX0) (N := 6) hx hb hts hi0 hown hK hP 0 rfl rfl 4 (by decide) (hts (.fieldLink RX0 21 "SelfCheckingCircuit$Analysis" "tally" "[J") (by decide +kernel)) (fun _ h9 => h9) rfl dX0_inConstantWeight_48 ?_
              refine lv_iload hx hb dX0_inConstantWeight_51 (lv_at hl 0 rfl) ?_
              refine va_lald hx hb hK hP 2 2 rfl rfl (by unfold vp_in; decide) dX0_inConstantWeight_53 ?_
              refine hk_tl (tf 2) (congrArg tf (by decide)) ?_
              refine lv_iload_n hx hb dX0_inConstantWeight_54 rfl (lv_at hl 4 rfl) ?_
              refine lv_iload hx hb dX0_inConstantWeight_55 (lv_at hl 0 rfl) ?_
              refine hk_csl (va_runS (As := [.int (nI wt), .int 2]) (rest := [.long (tf 2), .long (((-1 : Int64) &&& (((tf 0) ^^^ (bL (ib (nI wt) 0))) ^^^ (-1 : Int64))) &&& (((tf 1) ^^^ (bL (ib (nI wt) 1))) ^^^ (-1 : Int64)))]) ⟨hx, hb, hml, hown, hts⟩ (c0_columnOfBit l D g ti (nI wt) 2 (by decide)) (va_cwS 2 hts gX0_inConstantWeight_X0_columnOfBit rfl rfl rfl (by decide +kernel) ⟨Nat.le_of_ble_eq_true rfl, Nat.le_of_ble_eq_true rfl⟩) (hk_roS hE hP hS [] rfl) rfl rfl hl.1 rfl (lv_room (Nat.le_of_ble_eq_true rfl)) dX0_inConstantWeight_57 ⟨Nat.zero_le _, Nat.zero_le _⟩) (fun r_11 hr_12 => ?_)
              subst hr_12
              refine lv_lxor hx hb dX0_inConstantWeight_60 ?_
              refine lv_ldc2 (own := RX0) (v := (-1)) hx hb hown (hts (.constantLong RX0 56 (-1)) (by decide +kernel)) dX0_inConstantWeight_61 ?_
              refine lv_lxor hx hb dX0_inConstantWeight_64 ?_
              refine lv_land hx hb dX0_inConstantWeight_65 ?_
              refine lv_lstore_n (lv' := [(3, .long ((((-1 : Int64) &&& (((tf 0) ^^^ (bL (ib (nI wt) 0))) ^^^ (-1 : Int64))) &&& (((tf 1) ^^^ (bL (ib (nI wt) 1))) ^^^ (-1 : Int64))) &&& (((tf 2) ^^^ (bL (ib (nI wt) 2))) ^^^ (-1 : Int64)))), (5, .int 2), (0, .ref z), (1, .int (nI o)), (2, .int (nI wt))]) hx hb dX0_inConstantWeight_66 rfl hl (by decide) rfl (fun ls hl => ?_)
              refine lv_iinc (v := 3) (lv' := [(5, .int 3), (3, .long ((((-1 : Int64) &&& (((tf 0) ^^^ (bL (ib (nI wt) 0))) ^^^ (-1 : Int64))) &&& (((tf 1) ^^^ (bL (ib (nI wt) 1))) ^^^ (-1 : Int64))) &&& (((tf 2) ^^^ (bL (ib (nI wt) 2))) ^^^ (-1 : Int64)))), (0, .ref z), (1, .int (nI o)), (2, .int (nI wt))]) hx hb dX0_inConstantWeight_67 hl (k := 1) rfl (by decide) (by decide) rfl (fun ls hl => ?_)
              refine lv_goto (tgt := 40) hx hb dX0_inConstantWeight_70 (by decide) ?_
              refine lv_iload hx hb dX0_inConstantWeight_40 (lv_at hl 0 rfl) ?_
              refine lv_iconst (v := 3) hx hb dX0_inConstantWeight_42 (by decide) ?_
              refine lv_icmp_ge (tgt := 73) hx hb dX0_inConstantWeight_43 (by decide) (fun c_13 => ?_) (fun c_13 => ?_)
              · have c_13h : (3 : Int32) ≤ (3 : Int32) := c_13
                refine lv_lload_n hx hb dX0_inConstantWeight_73 rfl (lv_at hl 1 rfl) ?_
                have hP9 := hP.sub (ws' := [(z, .inr (0, [v0, v1, .ref q2, v3, .ref q4, v5])), (q2, .inl (g.2.2.1, 6, .inr (.inl oc))), (q4, .inl (g.2.2.1, 3, .inr (.inl tf)))]) [0, 1, 2] rfl
                have hD9 := hD.sub (ws' := [(z, .inr (0, [v0, v1, .ref q2, v3, .ref q4, v5])), (q2, .inl (g.2.2.1, 6, .inr (.inl oc))), (q4, .inl (g.2.2.1, 3, .inr (.inl tf)))]) [0, 1, 2] (by decide) rfl
                exact W.lret (v := ((((-1 : Int64) &&& (((tf 0) ^^^ (bL (ib (nI wt) 0))) ^^^ (-1 : Int64))) &&& (((tf 1) ^^^ (bL (ib (nI wt) 1))) ^^^ (-1 : Int64))) &&& (((tf 2) ^^^ (bL (ib (nI wt) 2))) ^^^ (-1 : Int64)))) hx hb hr (fun tt ht hW => ⟨⟨_, tf, rfl, fun w hw => by simp only [lb_and, lb_xor, lb_m1 w hw, lb_bL _ hw, (hT w hw).1, (hT w hw).2.1, (hT w hw).2.2, ib_nI (show 0 < 32 by decide), ib_nI (show 1 < 32 by decide), ib_nI (show 2 < 32 by decide)]; rw [show i = o by have := hk_ge o c_3; omega]; exact cw_d _ (ct_6 _ ho) wt (by omega), by rw [ht]; exact hP9, hD9⟩, hS.F ht⟩) hS.2.2 dX0_inConstantWeight_74
              · have c_13h : ¬ (3 : Int32) ≤ (3 : Int32) := c_13
                exact absurd c_13 (by decide)
      · have c_3h : ¬ nI o ≤ nI i := c_3
        refine lv_iload_n hx hb dX0_inConstantWeight_11 rfl (lv_at hl 0 rfl) ?_
        refine lv_bipush (v := 6) hx hb dX0_inConstantWeight_12 (by decide) ?_
        refine lv_icmp_ge (tgt := 33) hx hb dX0_inConstantWeight_14 (by decide) (fun c_14 => ?_) (fun c_14 => ?_)
        · have c_14h : (6 : Int32) ≤ nI i := c_14
          exact absurd (hk_ge 6 c_14) (by have := hk_nge o c_3; omega)
        · have c_14h : ¬ (6 : Int32) ≤ nI i := c_14
          refine lv_aload_n hx hb dX0_inConstantWeight_17 rfl (lv_at hl 1 rfl) ?_
          refine lv_aload_n hx hb dX0_inConstantWeight_18 rfl (lv_at hl 1 rfl) ?_
          refine va_get (D := D) (ci := 0) (v := .ref q2) (C := RX0) (T := TX0) (N := 6) hx hb hts hi0 hown hK hP 0 rfl rfl 2 (by decide) (hts (.fieldLink RX0 15 "SelfCheckingCircuit$Analysis" "outputColumns" "[J") (by decide +kernel)) (fun _ h9 => h9) rfl dX0_inConstantWeight_19 ?_
          refine lv_iload_n hx hb dX0_inConstantWeight_22 rfl (lv_at hl 0 rfl) ?_
          refine va_lald hx hb hK hP 1 2 rfl rfl (vp_in_nI (N := 6) (by have := hk_nge o c_3; omega) (by decide)) dX0_inConstantWeight_23 ?_
          refine hk_tl (oc i) (congrArg oc (nI_clamp (by omega))) ?_
          refine hk_cmv (wr := [(q2, .inl (g.2.2.1, 6, .inr (.inl oc)))]) (va_runV (As := [.long (oc i)]) (rest := []) ⟨hx, hb, hml, hown, hts⟩ (c0_addToTally l D g ti _ z v0 v1 (.ref q2) v3 v5 q4 tf (oc i) ) (cwV 1 hts gX0_inConstantWeight_X0_addToTally rfl rfl rfl (by decide +kernel) ⟨Nat.le_of_ble_eq_true rfl, Nat.le_of_ble_eq_true rfl⟩) (hk_inV hE hP hD hS hA 0 rfl rfl [0, 2] (by decide) rfl rfl) rfl rfl hl.1 rfl (lv_room (Nat.le_of_ble_eq_true rfl)) dX0_inConstantWeight_24 ⟨Nat.zero_le _, Nat.zero_le _⟩) hP hD hS hA [0, 2] [1] rfl rfl (by decide) (by decide) (fun tg H locs hr_16 hP hD hS => ?_)
          try dsimp only at hr_16
          have hP : va_P D vwCl [(q2, .inl (g.2.2.1, 6, .inr (.inl oc))), (z, .inr (0, [v0, v1, (.ref q2), v3, .ref q4, v5])), (q4, .inl (g.2.2.1, 3, .inr (.inl tg)))] H := hP
          have hD : va_D A [(q2, .inl (g.2.2.1, 6, .inr (.inl oc))), (z, .inr (0, [v0, v1, (.ref q2), v3, .ref q4, v5])), (q4, .inl (g.2.2.1, 3, .inr (.inl tg)))] := hD
          refine lv_iinc (v := (nI (i + 1))) (lv' := [(3, .int (nI (i + 1))), (0, .ref z), (1, .int (nI o)), (2, .int (nI wt))]) hx hb dX0_inConstantWeight_27 hl (k := 0) rfl (nI_1 i) (by decide) rfl (fun ls hl => ?_)
          refine lv_goto (tgt := 6) hx hb dX0_inConstantWeight_30 (by decide) ?_
          have hlt : i < o := hk_nge o c_3
          exact ih_6 (i + 1) tg (by omega) (by omega) (tD_s hT (fun w => ct_6 _ (by omega)) hr_16) _ _ (hP.sub [1, 0, 2] rfl) (hD.sub [1, 0, 2] (by decide) rfl) hS _ (lv_sub hl [0, 1, 2, 3] rfl)
  exact loop6 _ 0 tz (Nat.lt_succ_self _) (Nat.zero_le _) (tD_0 hr_2) _ _ (hP.sub [1, 0, 2] rfl) (hD.sub [1, 0, 2] (by decide) rfl) hS _ (lv_sub hl [0, 1, 2, 3] rfl)
theorem tD_n {f : Nat → Int64} {oc : Nat → Int64} {i : Nat} (h : tD f (fun w => ct (fun k => !lb (oc k) w) i + (if lb (oc i ^^^ (-1)) w then 1 else 0))) : tD f (fun w => ct (fun k => !lb (oc k) w) (i + 1)) := by
  intro w hw
  have := h w hw
  simp only [lb_not _ hw] at this
  exact this
theorem hk_ber {oc f : Nat → Int64} {o m w i : Nat} (hw : w < 64) (ho : o ≤ 6) (hm : m ≤ 6) (hi : i = m) (hT : tD f (fun w => ct (fun k => !lb (oc k) w) i)) : lb (((((((((-1) : Int64) &&& ((f 0 ^^^ (if m + 0 < o then oc (m + 0) else 0)) ^^^ (-1))) &&& ((f 1 ^^^ (if m + 1 < o then oc (m + 1) else 0)) ^^^ (-1))) &&& ((f 2 ^^^ (if m + 2 < o then oc (m + 2) else 0)) ^^^ (-1))) &&& (((0 : Int64) ^^^ (if m + 3 < o then oc (m + 3) else 0)) ^^^ (-1))) &&& (((0 : Int64) ^^^ (if m + 4 < o then oc (m + 4) else 0)) ^^^ (-1))) &&& (((0 : Int64) ^^^ (if m + 5 < o then oc (m + 5) else 0)) ^^^ (-1)))) w = (true && beB m o (fun k => lb (oc k) w) 6) := by
  subst hi
  have e : ∀ d, lb (if i + d < o then oc (i + d) else 0) w = (decide (i + d < o) && lb (oc (i + d)) w) := by
    intro d
    by_cases h : i + d < o
    · rw [if_pos h, decide_eq_true h]; rfl
    · rw [if_neg h, decide_eq_false h, lb_0]; rfl
  have h3 := t8 (ct (fun k => !lb (oc k) w) i) (ct_6 _ hm)
  obtain ⟨a0, a1, a2⟩ := hT w hw
  simp only [lb_and, lb_xor, lb_m1 w hw, lb_0, e, a0, a1, a2, xn, beB, h3.1, h3.2.1, h3.2.2]
  rfl
set_option maxHeartbeats 4000000 in
set_option maxRecDepth 100000 in
theorem c0_inBerger (l : Launch) (D : va_G) (g : hk_G) (ti : Nat) (sz : Nat) (z : Nat) (v0 : Value) (v1 : Value) (v3 : Value) (v5 : Value) (q2 : Nat) (oc : Nat → Int64) (q4 : Nat) (tl : Nat → Int64) (o : Nat) (wt : Nat) (ho : o ≤ 6) (hwt : wt ≤ 6) : Met l yX0_inBerger wsX0_inBerger ({ frames := 1, cells := 0, slots := 0, locals := 27 }) (va_Pc [.ref z, .int (nI o), .int (nI wt)] (hk_In D g ti [(z, .inr (0, [v0, v1, .ref q2, v3, .ref q4, v5])), (q2, .inl (g.2.2.1, 6, .inr (.inl oc))), (q4, .inl (g.2.2.1, 3, .inr (.inl tl)))] sz)) (va_Ql (S := Nat → Int64) (fun r _ => ∀ w, w < 64 → lb r w = (decide (wt ≤ o) && beB wt o (fun k => lb (oc k) w) 6)) (fun u => hk_Out D (va_A [(z, .inr (0, [v0, v1, .ref q2, v3, .ref q4, v5])), (q2, .inl (g.2.2.1, 6, .inr (.inl oc))), (q4, .inl (g.2.2.1, 3, .inr (.inl tl)))] sz) (match u with | f' => [(z, .inr (0, [v0, v1, .ref q2, v3, .ref q4, v5])), (q2, .inl (g.2.2.1, 6, .inr (.inl oc))), (q4, .inl (g.2.2.1, 3, .inr (.inl f')))])) (va_A [(z, .inr (0, [v0, v1, .ref q2, v3, .ref q4, v5])), (q2, .inl (g.2.2.1, 6, .inr (.inl oc))), (q4, .inl (g.2.2.1, 3, .inr (.inl tl)))] sz)) 0 0 (va_A [(z, .inr (0, [v0, v1, .ref q2, v3, .ref q4, v5])), (q2, .inl (g.2.2.1, 6, .inr (.inl oc))), (q4, .inl (g.2.2.1, 3, .inr (.inl tl)))] sz) := by
  refine Met.ofW (cc := cX0_inBerger) (maxL := 8) (ret := (some .long)) (by decide) rfl ?_
  intro p e s m args below meth c s₁ Bd hml hv
  obtain ⟨rfl, hsz, hP, hD0, hE⟩ := hv
  have hx := Bd.exec
  have hb := Bd.bytes
  have hr := Bd.returns
  have hts := atoms_spec (ws := wsX0_inBerger) Bd.pre
  have hown : s.vm.findClass RX0 = some m.cls := findClass_of_methodNamed Bd.named
  have hlocks := Bd.notSynchronized
  have hK := hE.1
  have hi0 : ∀ w ∈ wsX00, w ∈ wsX0_inBerger := fun w h => List.mem_cons_of_mem _ (List.mem_append_right _ h)
  subst hsz
  have hD := hD0.self (sz := s.heap.size)
  generalize hAe : va_A [(z, .inr (0, [v0, v1, .ref q2, v3, .ref q4, v5])), (q2, .inl (g.2.2.1, 6, .inr (.inl oc))), (q4, .inl (g.2.2.1, 3, .inr (.inl tl)))] s.heap.size = A at hD hE ⊢
  have hA : ∀ q : Nat, s.heap.size ≤ q → A q := fun q h => by rw [← hAe]; exact Or.inr h
  have hS : va_S A s.heap s.heap [] := va_S.rf
  have hl := lv_entry ([.ref z, .int (nI o), .int (nI wt)]) (n := 8) (Nat.le_of_ble_eq_true rfl)
  rw [lg_entry_eq]
  generalize (lg_sl ([.ref z, .int (nI o), .int (nI wt)]) ++ List.replicate (8 - (lg_sl ([.ref z, .int (nI o), .int (nI wt)])).length) Slot.unset).toArray = ls at hl ⊢
  have hl : lv_has ls 8 [(0, .ref z), (1, .int (nI o)), (2, .int (nI wt))] := hl
  refine lv_iload_n hx hb dX0_inBerger_0 rfl (lv_at hl 2 rfl) ?_
  refine lv_iload_n hx hb dX0_inBerger_1 rfl (lv_at hl 1 rfl) ?_
  refine lv_icmp_le (tgt := 7) hx hb dX0_inBerger_2 (by decide) (fun c_1 => ?_) (fun c_1 => ?_)
  · have c_1h : nI wt ≤ nI o := c_1
    refine lv_aload_n hx hb dX0_inBerger_7 rfl (lv_at hl 0 rfl) ?_
    refine hk_cmv (wr := [(q2, .inl (g.2.2.1, 6, .inr (.inl oc)))]) (va_runV (As := []) (rest := []) ⟨hx, hb, hml, hown, hts⟩ (c0_clearTally l D g ti _ z v0 v1 (.ref q2) v3 v5 q4 tl ) (cwV 0 hts gX0_inBerger_X0_clearTally rfl rfl rfl (by decide +kernel) ⟨Nat.le_of_ble_eq_true rfl, Nat.le_of_ble_eq_true rfl⟩) (hk_inV hE hP hD hS hA 0 rfl rfl [0, 2] (by decide) rfl rfl) rfl rfl hl.1 rfl (lv_room (Nat.le_of_ble_eq_true rfl)) dX0_inBerger_8 ⟨Nat.zero_le _, Nat.zero_le _⟩) hP hD hS hA [0, 2] [1] rfl rfl (by decide) (by decide) (fun tz H locs hr_3 hP hD hS => ?_)
    try dsimp only at hr_3
    have hP : va_P D vwCl [(q2, .inl (g.2.2.1, 6, .inr (.inl oc))), (z, .inr (0, [v0, v1, (.ref q2), v3, .ref q4, v5])), (q4, .inl (g.2.2.1, 3, .inr (.inl tz)))] H := hP
    have hD : va_D A [(q2, .inl (g.2.2.1, 6, .inr (.inl oc))), (z, .inr (0, [v0, v1, (.ref q2), v3, .ref q4, v5])), (q4, .inl (g.2.2.1, 3, .inr (.inl tz)))] := hD
    refine lv_iconst (v := 0) hx hb dX0_inBerger_11 (by decide) ?_
    refine lv_istore_n (lv' := [(3, .int 0), (0, .ref z), (1, .int (nI o)), (2, .int (nI wt))]) hx hb dX0_inBerger_12 rfl hl (by decide) rfl (fun ls hl => ?_)
    have loop13 : ∀ (n : Nat) (i : Nat) (tf : Nat → Int64), (wt - i) < n → (i ≤ wt) → (tD tf (fun w => ct (fun k => !lb (oc k) w) i)) → ∀ (H : Heap) (locs : List Loc), va_P D vwCl [(z, .inr (0, [v0, v1, .ref q2, v3, .ref q4, v5])), (q2, .inl (g.2.2.1, 6, .inr (.inl oc))), (q4, .inl (g.2.2.1, 3, .inr (.inl tf)))] H → va_D A [(z, .inr (0, [v0, v1, .ref q2, v3, .ref q4, v5])), (q2, .inl (g.2.2.1, 6, .inr (.inl oc))), (q4, .inl (g.2.2.1, 3, .inr (.inl tf)))] → va_S A s.heap H locs → ∀ ls : Array Slot, lv_has ls 8 [(3, .int (nI i)), (0, .ref z), (1, .int (nI o)), (2, .int (nI wt))] → W p l e (headSpec wsX0_inBerger ({ frames := 1, cells := 0, slots := 0, locals := 27 })).room s m ([.ref z, .int (nI o), .int (nI wt)] : List Value).toArray below meth c H locs 0 0 (MQ below (va_Ql (S := Nat → Int64) (fun r _ => ∀ w, w < 64 → lb r w = (decide (wt ≤ o) && beB wt o (fun k => lb (oc k) w) 6)) (fun u => hk_Out D A (match u with | f' => [(z, .inr (0, [v0, v1, .ref q2, v3, .ref q4, v5])), (q2, .inl (g.2.2.1, 6, .inr (.inl oc))), (q4, .inl (g.2.2.1, 3, .inr (.inl f')))])) A) ([.ref z, .int (nI o), .int (nI wt)] : List Value).toArray s 0 0 A) (F0 m 13 ls []) := by
      intro n
      induction n with
      | zero => intro i tf hm; exact absurd hm (Nat.not_lt_zero _)
      | succ n ih_13 =>
        intro i tf hm_13 hi hT H locs hP hD hS ls hl
        refine lv_iload_n hx hb dX0_inBerger_13 rfl (lv_at hl 0 rfl) ?_
        refine lv_iload_n hx hb dX0_inBerger_14 rfl (lv_at hl 3 rfl) ?_
        refine lv_icmp_ge (tgt := 44) hx hb dX0_inBerger_15 (by decide) (fun c_4 => ?_) (fun c_4 => ?_)
        · have c_4h : nI wt ≤ nI i := c_4
          refine lv_ldc2 (own := RX0) (v := (-1)) hx hb hown (hts (.constantLong RX0 56 (-1)) (by decide +kernel)) dX0_inBerger_44 ?_
          refine lv_lstore_n (lv' := [(3, .long (-1)), (0, .ref z), (1, .int (nI o)), (2, .int (nI wt))]) hx hb dX0_inBerger_47 rfl hl (by decide) rfl (fun ls hl => ?_)
          refine lv_iconst (v := 0) hx hb dX0_inBerger_48 (by decide) ?_
          refine lv_istore (lv' := [(5, .int 0), (3, .long (-1)), (0, .ref z), (1, .int (nI o)), (2, .int (nI wt))]) hx hb dX0_inBerger_49 hl (by decide) rfl (fun ls hl => ?_)
          refine lv_iload hx hb dX0_inBerger_51 (lv_at hl 0 rfl) ?_
          refine lv_bipush (v := 6) hx hb dX0_inBerger_53 (by decide) ?_
          refine lv_icmp_ge (tgt := 102) hx hb dX0_inBerger_55 (by decide) (fun c_5 => ?_) (fun c_5 => ?_)
          · have c_5h : (6 : Int32) ≤ (0 : Int32) := c_5
            exact absurd c_5 (by decide)
          · have c_5h : ¬ (6 : Int32) ≤ (0 : Int32) := c_5
            refine lv_iload hx hb dX0_inBerger_58 (lv_at hl 0 rfl) ?_
            refine lv_iconst (v := 3) hx hb dX0_inBerger_60 (by decide) ?_
            refine lv_icmp_ge (tgt := 74) hx hb dX0_inBerger_61 (by decide) (fun c_6 => ?_) (fun c_6 => ?_)
            · have c_6h : (3 : Int32) ≤ (0 : Int32) := c_6
              exact absurd c_6 (by decide)
            · have c_6h : ¬ (3 : Int32) ≤ (0 : Int32) := c_6
              refine lv_aload_n hx hb dX0_inBerger_64 rfl (lv_at hl 2 rfl) ?_
              refine va_get (D := D) (ci := 0) (v := .ref q4) (C := RX0) (T := TX0) (N := 6) hx hb hts hi0 hown hK hP 0 rfl rfl 4 (by decide) (hts (.fieldLink RX0 21 "SelfCheckingCircuit$Analysis" "tally" "[J") (by decide +kernel)) (fun _ h9 => h9) rfl dX0_inBerger_65 ?_
              refine lv_iload hx hb dX0_inBerger_68 (lv_at hl 0 rfl) ?_
              refine va_lald hx hb hK hP 2 2 rfl rfl (by unfold vp_in; decide) dX0_inBerger_70 ?_
              refine hk_tl (tf 0) (congrArg tf (by decide)) ?_
              refine lv_goto (tgt := 75) hx hb dX0_inBerger_71 (by decide) ?_
              refine lv_lstore (lv' := [(6, .long (tf 0)), (5, .int 0), (3, .long (-1)), (0, .ref z), (1, .int (nI o)), (2, .int (nI wt))]) hx hb dX0_inBerger_75 hl (by decide) rfl (fun ls hl => ?_)
              refine lv_lload_n hx hb dX0_inBerger_77 rfl (lv_at hl 2 rfl) ?_
              refine lv_lload hx hb dX0_inBerger_78 (lv_at hl 0 rfl) ?_
              refine lv_aload_n hx hb dX0_inBerger_80 rfl (lv_at hl 3 rfl) ?_
              refine lv_iload_n hx hb dX0_inBerger_81 rfl (lv_at hl 5 rfl) ?_
              refine lv_iload hx hb dX0_inBerger_82 (lv_at hl 1 rfl) ?_
              refine lv_iadd hx hb dX0_inBerger_84 ?_
              refine hk_ti (nI (wt + 0)) (nI_add wt 0) ?_
              refine lv_iload_n hx hb dX0_inBerger_85 rfl (lv_at hl 4 rfl) ?_
              refine hk_csl (va_runV (As := [.int (nI (wt + 0)), .int (nI o)]) (rest := [.long (tf 0), .long (-1)]) ⟨hx, hb, hml, hown, hts⟩ (c0_toldDigit l D g ti z v0 v1 v3 (.ref q4) v5 q2 oc (wt + 0) o (by omega) ho) (cwV 2 hts gX0_inBerger_X0_toldDigit rfl rfl rfl (by decide +kernel) ⟨Nat.le_of_ble_eq_true rfl, Nat.le_of_ble_eq_true rfl⟩) (hk_roV hE hP hS 0 rfl rfl [0, 1] rfl rfl) rfl rfl hl.1 rfl (lv_room (Nat.le_of_ble_eq_true rfl)) dX0_inBerger_86 ⟨Nat.zero_le _, Nat.zero_le _⟩) (fun r_7 hr_8 => ?_)
              subst hr_8
              refine lv_lxor hx hb dX0_inBerger_89 ?_
              refine lv_ldc2 (own := RX0) (v := (-1)) hx hb hown (hts (.constantLong RX0 56 (-1)) (by decide +kernel)) dX0_inBerger_90 ?_
              refine lv_lxor hx hb dX0_inBerger_93 ?_
              refine lv_land hx hb dX0_inBerger_94 ?_
              refine lv_lstore_n (lv' := [(3, .long ((-1 : Int64) &&& (((tf 0) ^^^ (if (wt + 0) < o then oc (wt + 0) else 0)) ^^^ (-1 : Int64)))), (6, .long (tf 0)), (5, .int 0), (0, .ref z), (1, .int (nI o)), (2, .int (nI wt))]) hx hb dX0_inBerger_95 rfl hl (by decide) rfl (fun ls hl => ?_)
              refine lv_iinc (v := 1) (lv' := [(5, .int 1), (3, .long ((-1 : Int64) &&& (((tf 0) ^^^ (if (wt + 0) < o then oc (wt + 0) else 0)) ^^^ (-1 : Int64)))), (6, .long (tf 0)), (0, .ref z), (1, .int (nI o)), (2, .int (nI wt))]) hx hb dX0_inBerger_96 hl (k := 2) rfl (by decide) (by decide) rfl (fun ls hl => ?_)
              refine lv_goto (tgt := 51) hx hb dX0_inBerger_99 (by decide) ?_
              refine lv_iload hx hb dX0_inBerger_51 (lv_at hl 0 rfl) ?_
              refine lv_bipush (v := 6) hx hb dX0_inBerger_53 (by decide) ?_
              refine lv_icmp_ge (tgt := 102) hx hb dX0_inBerger_55 (by decide) (fun c_9 => ?_) (fun c_9 => ?_)
              · have c_9h : (6 : Int32) ≤ (1 : Int32) := c_9
                exact absurd c_9 (by decide)
              · have c_9h : ¬ (6 : Int32) ≤ (1 : Int32) := c_9
                refine lv_iload hx hb dX0_inBerger_58 (lv_at hl 0 rfl) ?_
                refine lv_iconst (v := 3) hx hb dX0_inBerger_60 (by decide) ?_
                refine lv_icmp_ge (tgt := 74) hx hb dX0_inBerger_61 (by decide) (fun c_10 => ?_) (fun c_10 => ?_)
                · have c_10h : (3 : Int32) ≤ (1 : Int32) := c_10
                  exact absurd c_10 (by decide)
                · have c_10h : ¬ (3 : Int32) ≤ (1 : Int32) := c_10
                  refine lv_aload_n hx hb dX0_inBerger_64 rfl (lv_at hl 3 rfl) ?_
                  refine va_get (D := D) (ci := 0) (v := .ref q4) (C := RX0) (T := TX0) (N := 6) hx hb hts hi0 hown hK hP 0 rfl rfl 4 (by decide) (hts (.fieldLink RX0 21 "SelfCheckingCircuit$Analysis" "tally" "[J") (by decide +kernel)) (fun _ h9 => h9) rfl dX0_inBerger_65 ?_
                  refine lv_iload hx hb dX0_inBerger_68 (lv_at hl 0 rfl) ?_
                  refine va_lald hx hb hK hP 2 2 rfl rfl (by unfold vp_in; decide) dX0_inBerger_70 ?_
                  refine hk_tl (tf 1) (congrArg tf (by decide)) ?_
                  refine lv_goto (tgt := 75) hx hb dX0_inBerger_71 (by decide) ?_
                  refine lv_lstore (lv' := [(6, .long (tf 1)), (5, .int 1), (3, .long ((-1 : Int64) &&& (((tf 0) ^^^ (if (wt + 0) < o then oc (wt + 0) else 0)) ^^^ (-1 : Int64)))), (0, .ref z), (1, .int (nI o)), (2, .int (nI wt))]) hx hb dX0_inBerger_75 hl (by decide) rfl (fun ls hl => ?_)
                  refine lv_lload_n hx hb dX0_inBerger_77 rfl (lv_at hl 2 rfl) ?_
                  refine lv_lload hx hb dX0_inBerger_78 (lv_at hl 0 rfl) ?_
                  refine lv_aload_n hx hb dX0_inBerger_80 rfl (lv_at hl 3 rfl) ?_
                  refine lv_iload_n hx hb dX0_inBerger_81 rfl (lv_at hl 5 rfl) ?_
                  refine lv_iload hx hb dX0_inBerger_82 (lv_at hl 1 rfl) ?_
                  refine lv_iadd hx hb dX0_inBerger_84 ?_
                  refine hk_ti (nI (wt + 1)) (nI_add wt 1) ?_
                  refine lv_iload_n hx hb dX0_inBerger_85 rfl (lv_at hl 4 rfl) ?_
                  refine hk_csl (va_runV (As := [.int (nI (wt + 1)), .int (nI o)]) (rest := [.long (tf 1), .long ((-1 : Int64) &&& (((tf 0) ^^^ (if (wt + 0) < o then oc (wt + 0) else 0)) ^^^ (-1 : Int64)))]) ⟨hx, hb, hml, hown, hts⟩ (c0_toldDigit l D g ti z v0 v1 v3 (.ref q4) v5 q2 oc (wt + 1) o (by omega) ho) (cwV 2 hts gX0_inBerger_X0_toldDigit rfl rfl rfl (by decide +kernel) ⟨Nat.le_of_ble_eq_true rfl, Nat.le_of_ble_eq_true rfl⟩) (hk_roV hE hP hS 0 rfl rfl [0, 1] rfl rfl) rfl rfl hl.1 rfl (lv_room (Nat.le_of_ble_eq_true rfl)) dX0_inBerger_86 ⟨Nat.zero_le _, Nat.zero_le _⟩) (fun r_11 hr_12 => ?_)
                  subst hr_12
                  refine lv_lxor hx hb dX0_inBerger_89 ?_
                  refine lv_ldc2 (own := RX0) (v := (-1)) hx hb hown (hts (.constantLong RX0 56 (-1)) (by decide +kernel)) dX0_inBerger_90 ?_
                  refine lv_lxor hx hb dX0_inBerger_93 ?_
                  refine lv_land hx hb dX0_inBerger_94 ?_
                  refine lv_lstore_n (lv' := [(3, .long (((-1 : Int64) &&& (((tf 0) ^^^ (if (wt + 0) < o then oc (wt + 0) else 0)) ^^^ (-1 : Int64))) &&& (((tf 1) ^^^ (if (wt + 1) < o then oc (wt + 1) else 0)) ^^^ (-1 : Int64)))), (6, .long (tf 1)), (5, .int 1), (0, .ref z), (1, .int (nI o)), (2, .int (nI wt))]) hx hb dX0_inBerger_95 rfl hl (by decide) rfl (fun ls hl => ?_)
                  refine lv_iinc (v := 2) (lv' := [(5, .int 2), (3, .long (((-1 : Int64) &&& (((tf 0) ^^^ (if (wt + 0) < o then oc (wt + 0) else 0)) ^^^ (-1 : Int64))) &&& (((tf 1) ^^^ (if (wt + 1) < o then oc (wt + 1) else 0)) ^^^ (-1 : Int64)))), (6, .long (tf 1)), (0, .ref z), (1, .int (nI o)), (2, .int (nI wt))]) hx hb dX0_inBerger_96 hl (k := 2) rfl (by decide) (by decide) rfl (fun ls hl => ?_)
                  refine lv_goto (tgt := 51) hx hb dX0_inBerger_99 (by decide) ?_
                  refine lv_iload hx hb dX0_inBerger_51 (lv_at hl 0 rfl) ?_
                  refine lv_bipush (v := 6) hx hb dX0_inBerger_53 (by decide) ?_
                  refine lv_icmp_ge (tgt := 102) hx hb dX0_inBerger_55 (by decide) (fun c_13 => ?_) (fun c_13 => ?_)
                  · have c_13h : (6 : Int32) ≤ (2 : Int32) := c_13
                    exact absurd c_13 (by decide)
                  · have c_13h : ¬ (6 : Int32) ≤ (2 : Int32) := c_13
                    refine lv_iload hx hb dX0_inBerger_58 (lv_at hl 0 rfl) ?_
                    refine lv_iconst (v := 3) hx hb dX0_inBerger_60 (by decide) ?_
                    refine lv_icmp_ge (tgt := 74) hx hb dX0_inBerger_61 (by decide) (fun c_14 => ?_) (fun c_14 => ?_)
                    · have c_14h : (3 : Int32) ≤ (2 : Int32) := c_14
                      exact absurd c_14 (by decide)
                    · have c_14h : ¬ (3 : Int32) ≤ (2 : Int32) := c_14
                      refine lv_aload_n hx hb dX0_inBerger_64 rfl (lv_at hl 3 rfl) ?_
                      refine va_get (D := D) (ci := 0) (v := .ref q4) (C := RX0) (T := TX0) (N := 6) hx hb hts hi0 hown hK hP 0 rfl rfl 4 (by decide) (hts (.fieldLink RX0 21 "SelfCheckingCircuit$Analysis" "tally" "[J") (by decide +kernel)) (fun _ h9 => h9) rfl dX0_inBerger_65 ?_
                      refine lv_iload hx hb dX0_inBerger_68 (lv_at hl 0 rfl) ?_
                      refine va_lald hx hb hK hP 2 2 rfl rfl (by unfold vp_in; decide) dX0_inBerger_70 ?_
                      refine hk_tl (tf 2) (congrArg tf (by decide)) ?_
                      refine lv_goto (tgt := 75) hx hb dX0_inBerger_71 (by decide) ?_
                      refine lv_lstore (lv' := [(6, .long (tf 2)), (5, .int 2), (3, .long (((-1 : Int64) &&& (((tf 0) ^^^ (if (wt + 0) < o then oc (wt + 0) else 0)) ^^^ (-1 : Int64))) &&& (((tf 1) ^^^ (if (wt + 1) < o then oc (wt + 1) else 0)) ^^^ (-1 : Int64)))), (0, .ref z), (1, .int (nI o)), (2, .int (nI wt))]) hx hb dX0_inBerger_75 hl (by decide) rfl (fun ls hl => ?_)
                      refine lv_lload_n hx hb dX0_inBerger_77 rfl (lv_at hl 2 rfl) ?_
                      refine lv_lload hx hb dX0_inBerger_78 (lv_at hl 0 rfl) ?_
                      refine lv_aload_n hx hb dX0_inBerger_80 rfl (lv_at hl 3 rfl) ?_
                      refine lv_iload_n hx hb dX0_inBerger_81 rfl (lv_at hl 5 rfl) ?_
                      refine lv_iload hx hb dX0_inBerger_82 (lv_at hl 1 rfl) ?_
                      refine lv_iadd hx hb dX0_inBerger_84 ?_
                      refine hk_ti (nI (wt + 2)) (nI_add wt 2) ?_
                      refine lv_iload_n hx hb dX0_inBerger_85 rfl (lv_at hl 4 rfl) ?_
                      refine hk_csl (va_runV (As := [.int (nI (wt + 2)), .int (nI o)]) (rest := [.long (tf 2), .long (((-1 : Int64) &&& (((tf 0) ^^^ (if (wt + 0) < o then oc (wt + 0) else 0)) ^^^ (-1 : Int64))) &&& (((tf 1) ^^^ (if (wt + 1) < o then oc (wt + 1) else 0)) ^^^ (-1 : Int64)))]) ⟨hx, hb, hml, hown, hts⟩ (c0_toldDigit l D g ti z v0 v1 v3 (.ref q4) v5 q2 oc (wt + 2) o (by omega) ho) (cwV 2 hts gX0_inBerger_X0_toldDigit rfl rfl rfl (by decide +kernel) ⟨Nat.le_of_ble_eq_true rfl, Nat.le_of_ble_eq_true rfl⟩) (hk_roV hE hP hS 0 rfl rfl [0, 1] rfl rfl) rfl rfl hl.1 rfl (lv_room (Nat.le_of_ble_eq_true rfl)) dX0_inBerger_86 ⟨Nat.zero_le _, Nat.zero_le _⟩) (fun r_15 hr_16 => ?_)
                      subst hr_16
                      refine lv_lxor hx hb dX0_inBerger_89 ?_
                      refine lv_ldc2 (own := RX0) (v := (-1)) hx hb hown (hts (.constantLong RX0 56 (-1)) (by decide +kernel)) dX0_inBerger_90 ?_
                      refine lv_lxor hx hb dX0_inBerger_93 ?_
                      refine lv_land hx hb dX0_inBerger_94 ?_
                      refine lv_lstore_n (lv' := [(3, .long ((((-1 : Int64) &&& (((tf 0) ^^^ (if (wt + 0) < o then oc (wt + 0) else 0)) ^^^ (-1 : Int64))) &&& (((tf 1) ^^^ (if (wt + 1) < o then oc (wt + 1) else 0)) ^^^ (-1 : Int64))) &&& (((tf 2) ^^^ (if (wt + 2) < o then oc (wt + 2) else 0)) ^^^ (-1 : Int64)))), (6, .long (tf 2)), (5, .int 2), (0, .ref z), (1, .int (nI o)), (2, .int (nI wt))]) hx hb dX0_inBerger_95 rfl hl (by decide) rfl (fun ls hl => ?_)
                      refine lv_iinc (v := 3) (lv' := [(5, .int 3), (3, .long ((((-1 : Int64) &&& (((tf 0) ^^^ (if (wt + 0) < o then oc (wt + 0) else 0)) ^^^ (-1 : Int64))) &&& (((tf 1) ^^^ (if (wt + 1) < o then oc (wt + 1) else 0)) ^^^ (-1 : Int64))) &&& (((tf 2) ^^^ (if (wt + 2) < o then oc (wt + 2) else 0)) ^^^ (-1 : Int64)))), (6, .long (tf 2)), (0, .ref z), (1, .int (nI o)), (2, .int (nI wt))]) hx hb dX0_inBerger_96 hl (k := 2) rfl (by decide) (by decide) rfl (fun ls hl => ?_)
                      refine lv_goto (tgt := 51) hx hb dX0_inBerger_99 (by decide) ?_
                      refine lv_iload hx hb dX0_inBerger_51 (lv_at hl 0 rfl) ?_
                      refine lv_bipush (v := 6) hx hb dX0_inBerger_53 (by decide) ?_
                      refine lv_icmp_ge (tgt := 102) hx hb dX0_inBerger_55 (by decide) (fun c_17 => ?_) (fun c_17 => ?_)
                      · have c_17h : (6 : Int32) ≤ (3 : Int32) := c_17
                        exact absurd c_17 (by decide)
                      · have c_17h : ¬ (6 : Int32) ≤ (3 : Int32) := c_17
                        refine lv_iload hx hb dX0_inBerger_58 (lv_at hl 0 rfl) ?_
                        refine lv_iconst (v := 3) hx hb dX0_inBerger_60 (by decide) ?_
                        refine lv_icmp_ge (tgt := 74) hx hb dX0_inBerger_61 (by decide) (fun c_18 => ?_) (fun c_18 => ?_)
                        · have c_18h : (3 : Int32) ≤ (3 : Int32) := c_18
                          refine lv_lconst (v := 0) hx hb dX0_inBerger_74 (by decide) ?_
                          refine lv_lstore (lv' := [(6, .long 0), (5, .int 3), (3, .long ((((-1 : Int64) &&& (((tf 0) ^^^ (if (wt + 0) < o then oc (wt + 0) else 0)) ^^^ (-1 : Int64))) &&& (((tf 1) ^^^ (if (wt + 1) < o then oc (wt + 1) else 0)) ^^^ (-1 : Int64))) &&& (((tf 2) ^^^ (if (wt + 2) < o then oc (wt + 2) else 0)) ^^^ (-1 : Int64)))), (0, .ref z), (1, .int (nI o)), (2, .int (nI wt))]) hx hb dX0_inBerger_75 hl (by decide) rfl (fun ls hl => ?_)
                          refine lv_lload_n hx hb dX0_inBerger_77 rfl (lv_at hl 2 rfl) ?_
                          refine lv_lload hx hb dX0_inBerger_78 (lv_at hl 0 rfl) ?_
                          refine lv_aload_n hx hb dX0_inBerger_80 rfl (lv_at hl 3 rfl) ?_
                          refine lv_iload_n hx hb dX0_inBerger_81 rfl (lv_at hl 5 rfl) ?_
                          refine lv_iload hx hb dX0_inBerger_82 (lv_at hl 1 rfl) ?_
                          refine lv_iadd hx hb dX0_inBerger_84 ?_
                          refine hk_ti (nI (wt + 3)) (nI_add wt 3) ?_
                          refine lv_iload_n hx hb dX0_inBerger_85 rfl (lv_at hl 4 rfl) ?_
                          refine hk_csl (va_runV (As := [.int (nI (wt + 3)), .int (nI o)]) (rest := [.long 0, .long ((((-1 : Int64) &&& (((tf 0) ^^^ (if (wt + 0) < o then oc (wt + 0) else 0)) ^^^ (-1 : Int64))) &&& (((tf 1) ^^^ (if (wt + 1) < o then oc (wt + 1) else 0)) ^^^ (-1 : Int64))) &&& (((tf 2) ^^^ (if (wt + 2) < o then oc (wt + 2) else 0)) ^^^ (-1 : Int64)))]) ⟨hx, hb, hml, hown, hts⟩ (c0_toldDigit l D g ti z v0 v1 v3 (.ref q4) v5 q2 oc (wt + 3) o (by omega) ho) (cwV 2 hts gX0_inBerger_X0_toldDigit rfl rfl rfl (by decide +kernel) ⟨Nat.le_of_ble_eq_true rfl, Nat.le_of_ble_eq_true rfl⟩) (hk_roV hE hP hS 0 rfl rfl [0, 1] rfl rfl) rfl rfl hl.1 rfl (lv_room (Nat.le_of_ble_eq_true rfl)) dX0_inBerger_86 ⟨Nat.zero_le _, Nat.zero_le _⟩) (fun r_19 hr_20 => ?_)
                          subst hr_20
                          refine lv_lxor hx hb dX0_inBerger_89 ?_
                          refine lv_ldc2 (own := RX0) (v := (-1)) hx hb hown (hts (.constantLong RX0 56 (-1)) (by decide +kernel)) dX0_inBerger_90 ?_
                          refine lv_lxor hx hb dX0_inBerger_93 ?_
                          refine lv_land hx hb dX0_inBerger_94 ?_
                          refine lv_lstore_n (lv' := [(3, .long (((((-1 : Int64) &&& (((tf 0) ^^^ (if (wt + 0) < o then oc (wt + 0) else 0)) ^^^ (-1 : Int64))) &&& (((tf 1) ^^^ (if (wt + 1) < o then oc (wt + 1) else 0)) ^^^ (-1 : Int64))) &&& (((tf 2) ^^^ (if (wt + 2) < o then oc (wt + 2) else 0)) ^^^ (-1 : Int64))) &&& (((0 : Int64) ^^^ (if (wt + 3) < o then oc (wt + 3) else 0)) ^^^ (-1 : Int64)))), (6, .long 0), (5, .int 3), (0, .ref z), (1, .int (nI o)), (2, .int (nI wt))]) hx hb dX0_inBerger_95 rfl hl (by decide) rfl (fun ls hl => ?_)
                          refine lv_iinc (v := 4) (lv' := [(5, .int 4), (3, .long (((((-1 : Int64) &&& (((tf 0) ^^^ (if (wt + 0) < o then oc (wt + 0) else 0)) ^^^ (-1 : Int64))) &&& (((tf 1) ^^^ (if (wt + 1) < o then oc (wt + 1) else 0)) ^^^ (-1 : Int64))) &&& (((tf 2) ^^^ (if (wt + 2) < o then oc (wt + 2) else 0)) ^^^ (-1 : Int64))) &&& (((0 : Int64) ^^^ (if (wt + 3) < o then oc (wt + 3) else 0)) ^^^ (-1 : Int64)))), (6, .long 0), (0, .ref z), (1, .int (nI o)), (2, .int (nI wt))]) hx hb dX0_inBerger_96 hl (k := 2) rfl (by decide) (by decide) rfl (fun ls hl => ?_)
                          refine lv_goto (tgt := 51) hx hb dX0_inBerger_99 (by decide) ?_
                          refine lv_iload hx hb dX0_inBerger_51 (lv_at hl 0 rfl) ?_
                          refine lv_bipush (v := 6) hx hb dX0_inBerger_53 (by decide) ?_
                          refine lv_icmp_ge (tgt := 102) hx hb dX0_inBerger_55 (by decide) (fun c_21 => ?_) (fun c_21 => ?_)
                          · have c_21h : (6 : Int32) ≤ (4 : Int32) := c_21
                            exact absurd c_21 (by decide)
                          · have c_21h : ¬ (6 : Int32) ≤ (4 : Int32) := c_21
                            refine lv_iload hx hb dX0_inBerger_58 (lv_at hl 0 rfl) ?_
                            refine lv_iconst (v := 3) hx hb dX0_inBerger_60 (by decide) ?_
                            refine lv_icmp_ge (tgt := 74) hx hb dX0_inBerger_61 (by decide) (fun c_22 => ?_) (fun c_22 => ?_)
                            · have c_22h : (3 : Int32) ≤ (4 : Int32) := c_22
                              refine lv_lconst (v := 0) hx hb dX0_inBerger_74 (by decide) ?_
                              refine lv_lstore (lv' := [(6, .long 0), (5, .int 4), (3, .long (((((-1 : Int64) &&& (((tf 0) ^^^ (if (wt + 0) < o then oc (wt + 0) else 0)) ^^^ (-1 : Int64))) &&& (((tf 1) ^^^ (if (wt + 1) < o then oc (wt + 1) else 0)) ^^^ (-1 : Int64))) &&& (((tf 2) ^^^ (if (wt + 2) < o then oc (wt + 2) else 0)) ^^^ (-1 : Int64))) &&& (((0 : Int64) ^^^ (if (wt + 3) < o then oc (wt + 3) else 0)) ^^^ (-1 : Int64)))), (0, .ref z), (1, .int (nI o)), (2, .int (nI wt))]) hx hb dX0_inBerger_75 hl (by decide) rfl (fun ls hl => ?_)
                              refine lv_lload_n hx hb dX0_inBerger_77 rfl (lv_at hl 2 rfl) ?_
                              refine lv_lload hx hb dX0_inBerger_78 (lv_at hl 0 rfl) ?_
                              refine lv_aload_n hx hb dX0_inBerger_80 rfl (lv_at hl 3 rfl) ?_
                              refine lv_iload_n hx hb dX0_inBerger_81 rfl (lv_at hl 5 rfl) ?_
                              refine lv_iload hx hb dX0_inBerger_82 (lv_at hl 1 rfl) ?_
                              refine lv_iadd hx hb dX0_inBerger_84 ?_
                              refine hk_ti (nI (wt + 4)) (nI_add wt 4) ?_
                              refine lv_iload_n hx hb dX0_inBerger_85 rfl (lv_at hl 4 rfl) ?_
                              refine hk_csl (va_runV (As := [.int (nI (wt + 4)), .int (nI o)]) (rest := [.long 0, .long (((((-1 : Int64) &&& (((tf 0) ^^^ (if (wt + 0) < o then oc (wt + 0) else 0)) ^^^ (-1 : Int64))) &&& (((tf 1) ^^^ (if (wt + 1) < o then oc (wt + 1) else 0)) ^^^ (-1 : Int64))) &&& (((tf 2) ^^^ (if (wt + 2) < o then oc (wt + 2) else 0)) ^^^ (-1 : Int64))) &&& (((0 : Int64) ^^^ (if (wt + 3) < o then oc (wt + 3) else 0)) ^^^ (-1 : Int64)))]) ⟨hx, hb, hml, hown, hts⟩ (c0_toldDigit l D g ti z v0 v1 v3 (.ref q4) v5 q2 oc (wt + 4) o (by omega) ho) (cwV 2 hts gX0_inBerger_X0_toldDigit rfl rfl rfl (by decide +kernel) ⟨Nat.le_of_ble_eq_true rfl, Nat.le_of_ble_eq_true rfl⟩) (hk_roV hE hP hS 0 rfl rfl [0, 1] rfl rfl) rfl rfl hl.1 rfl (lv_room (Nat.le_of_ble_eq_true rfl)) dX0_inBerger_86 ⟨Nat.zero_le _, Nat.zero_le _⟩) (fun r_23 hr_24 => ?_)
                              subst hr_24
                              refine lv_lxor hx hb dX0_inBerger_89 ?_
                              refine lv_ldc2 (own := RX0) (v := (-1)) hx hb hown (hts (.constantLong RX0 56 (-1)) (by decide +kernel)) dX0_inBerger_90 ?_
                              refine lv_lxor hx hb dX0_inBerger_93 ?_
                              refine lv_land hx hb dX0_inBerger_94 ?_
                              refine lv_lstore_n (lv' := [(3, .long ((((((-1 : Int64) &&& (((tf 0) ^^^ (if (wt + 0) < o then oc (wt + 0) else 0)) ^^^ (-1 : Int64))) &&& (((tf 1) ^^^ (if (wt + 1) < o then oc (wt + 1) else 0)) ^^^ (-1 : Int64))) &&& (((tf 2) ^^^ (if (wt + 2) < o then oc (wt + 2) else 0)) ^^^ (-1 : Int64))) &&& (((0 : Int64) ^^^ (if (wt + 3) < o then oc (wt + 3) else 0)) ^^^ (-1 : Int64))) &&& (((0 : Int64) ^^^ (if (wt + 4) < o then oc (wt + 4) else 0)) ^^^ (-1 : Int64)))), (6, .long 0), (5, .int 4), (0, .ref z), (1, .int (nI o)), (2, .int (nI wt))]) hx hb dX0_inBerger_95 rfl hl (by decide) rfl (fun ls hl => ?_)
                              refine lv_iinc (v := 5) (lv' := [(5, .int 5), (3, .long ((((((-1 : Int64) &&& (((tf 0) ^^^ (if (wt + 0) < o then oc (wt + 0) else 0)) ^^^ (-1 : Int64))) &&& (((tf 1) ^^^ (if (wt + 1) < o then oc (wt + 1) else 0)) ^^^ (-1 : Int64))) &&& (((tf 2) ^^^ (if (wt + 2) < o then oc (wt + 2) else 0)) ^^^ (-1 : Int64))) &&& (((0 : Int64) ^^^ (if (wt + 3) < o then oc (wt + 3) else 0)) ^^^ (-1 : Int64))) &&& (((0 : Int64) ^^^ (if (wt + 4) < o then oc (wt + 4) else 0)) ^^^ (-1 : Int64)))), (6, .long 0), (0, .ref z), (1, .int (nI o)), (2, .int (nI wt))]) hx hb dX0_inBerger_96 hl (k := 2) rfl (by decide) (by decide) rfl (fun ls hl => ?_)
                              refine lv_goto (tgt := 51) hx hb dX0_inBerger_99 (by decide) ?_
                              refine lv_iload hx hb dX0_inBerger_51 (lv_at hl 0 rfl) ?_
                              refine lv_bipush (v := 6) hx hb dX0_inBerger_53 (by decide) ?_
                              refine lv_icmp_ge (tgt := 102) hx hb dX0_inBerger_55 (by decide) (fun c_25 => ?_) (fun c_25 => ?_)
                              · have c_25h : (6 : Int32) ≤ (5 : Int32) := c_25
                                exact absurd c_25 (by decide)
                              · have c_25h : ¬ (6 : Int32) ≤ (5 : Int32) := c_25
                                refine lv_iload hx hb dX0_inBerger_58 (lv_at hl 0 rfl) ?_
                                refine lv_iconst (v := 3) hx hb dX0_inBerger_60 (by decide) ?_
                                refine lv_icmp_ge (tgt := 74) hx hb dX0_inBerger_61 (by decide) (fun c_26 => ?_) (fun c_26 => ?_)
                                · have c_26h : (3 : Int32) ≤ (5 : Int32) := c_26
                                  refine lv_lconst (v := 0) hx hb dX0_inBerger_74 (by decide) ?_
                                  refine lv_lstore (lv' := [(6, .long 0), (5, .int 5), (3, .long ((((((-1 : Int64) &&& (((tf 0) ^^^ (if (wt + 0) < o then oc (wt + 0) else 0)) ^^^ (-1 : Int64))) &&& (((tf 1) ^^^ (if (wt + 1) < o then oc (wt + 1) else 0)) ^^^ (-1 : Int64))) &&& (((tf 2) ^^^ (if (wt + 2) < o then oc (wt + 2) else 0)) ^^^ (-1 : Int64))) &&& (((0 : Int64) ^^^ (if (wt + 3) < o then oc (wt + 3) else 0)) ^^^ (-1 : Int64))) &&& (((0 : Int64) ^^^ (if (wt + 4) < o then oc (wt + 4) else 0)) ^^^ (-1 : Int64)))), (0, .ref z), (1, .int (nI o)), (2, .int (nI wt))]) hx hb dX0_inBerger_75 hl (by decide) rfl (fun ls hl => ?_)
                                  refine lv_lload_n hx hb dX0_inBerger_77 rfl (lv_at hl 2 rfl) ?_
                                  refine lv_lload hx hb dX0_inBerger_78 (lv_at hl 0 rfl) ?_
                                  refine lv_aload_n hx hb dX0_inBerger_80 rfl (lv_at hl 3 rfl) ?_
                                  refine lv_iload_n hx hb dX0_inBerger_81 rfl (lv_at hl 5 rfl) ?_
                                  refine lv_iload hx hb dX0_inBerger_82 (lv_at hl 1 rfl) ?_
                                  refine lv_iadd hx hb dX0_inBerger_84 ?_
                                  refine hk_ti (nI (wt + 5)) (nI_add wt 5) ?_
                                  refine lv_iload_n hx hb dX0_inBerger_85 rfl (lv_at hl 4 rfl) ?_
                                  refine hk_csl (va_runV (As := [.int (nI (wt + 5)), .int (nI o)]) (rest := [.long 0, .long ((((((-1 : Int64) &&& (((tf 0) ^^^ (if (wt + 0) < o then oc (wt + 0) else 0)) ^^^ (-1 : Int64))) &&& (((tf 1) ^^^ (if (wt + 1) < o then oc (wt + 1) else 0)) ^^^ (-1 : Int64))) &&& (((tf 2) ^^^ (if (wt + 2) < o then oc (wt + 2) else 0)) ^^^ (-1 : Int64))) &&& (((0 : Int64) ^^^ (if (wt + 3) < o then oc (wt + 3) else 0)) ^^^ (-1 : Int64))) &&& (((0 : Int64) ^^^ (if (wt + 4) < o then oc (wt + 4) else 0)) ^^^ (-1 : Int64)))]) ⟨hx, hb, hml, hown, hts⟩ (c0_toldDigit l D g ti z v0 v1 v3 (.ref q4) v5 q2 oc (wt + 5) o (by omega) ho) (cwV 2 hts gX0_inBerger_X0_toldDigit rfl rfl rfl (by decide +kernel) ⟨Nat.le_of_ble_eq_true rfl, Nat.le_of_ble_eq_true rfl⟩) (hk_roV hE hP hS 0 rfl rfl [0, 1] rfl rfl) rfl rfl hl.1 rfl (lv_room (Nat.le_of_ble_eq_true rfl)) dX0_inBerger_86 ⟨Nat.zero_le _, Nat.zero_le _⟩) (fun r_27 hr_28 => ?_)
                                  subst hr_28
                                  refine lv_lxor hx hb dX0_inBerger_89 ?_
                                  refine lv_ldc2 (own := RX0) (v := (-1)) hx hb hown (hts (.constantLong RX0 56 (-1)) (by decide +kernel)) dX0_inBerger_90 ?_
                                  refine lv_lxor hx hb dX0_inBerger_93 ?_
                                  refine lv_land hx hb dX0_inBerger_94 ?_
                                  refine lv_lstore_n (lv' := [(3, .long (((((((-1 : Int64) &&& (((tf 0) ^^^ (if (wt + 0) < o then oc (wt + 0) else 0)) ^^^ (-1 : Int64))) &&& (((tf 1) ^^^ (if (wt + 1) < o then oc (wt + 1) else 0)) ^^^ (-1 : Int64))) &&& (((tf 2) ^^^ (if (wt + 2) < o then oc (wt + 2) else 0)) ^^^ (-1 : Int64))) &&& (((0 : Int64) ^^^ (if (wt + 3) < o then oc (wt + 3) else 0)) ^^^ (-1 : Int64))) &&& (((0 : Int64) ^^^ (if (wt + 4) < o then oc (wt + 4) else 0)) ^^^ (-1 : Int64))) &&& (((0 : Int64) ^^^ (if (wt + 5) < o then oc (wt + 5) else 0)) ^^^ (-1 : Int64)))), (6, .long 0), (5, .int 5), (0, .ref z), (1, .int (nI o)), (2, .int (nI wt))]) hx hb dX0_inBerger_95 rfl hl (by decide) rfl (fun ls hl => ?_)
                                  refine lv_iinc (v := 6) (lv' := [(5, .int 6), (3, .long (((((((-1 : Int64) &&& (((tf 0) ^^^ (if (wt + 0) < o then oc (wt + 0) else 0)) ^^^ (-1 : Int64))) &&& (((tf 1) ^^^ (if (wt + 1) < o then oc (wt + 1) else 0)) ^^^ (-1 : Int64))) &&& (((tf 2) ^^^ (if (wt + 2) < o then oc (wt + 2) else 0)) ^^^ (-1 : Int64))) &&& (((0 : Int64) ^^^ (if (wt + 3) < o then oc (wt + 3) else 0)) ^^^ (-1 : Int64))) &&& (((0 : Int64) ^^^ (if (wt + 4) < o then oc (wt + 4) else 0)) ^^^ (-1 : Int64))) &&& (((0 : Int64) ^^^ (if (wt + 5) < o then oc (wt + 5) else 0)) ^^^ (-1 : Int64)))), (6, .long 0), (0, .ref z), (1, .int (nI o)), (2, .int (nI wt))]) hx hb dX0_inBerger_96 hl (k := 2) rfl (by decide) (by decide) rfl (fun ls hl => ?_)
                                  refine lv_goto (tgt := 51) hx hb dX0_inBerger_99 (by decide) ?_
                                  refine lv_iload hx hb dX0_inBerger_51 (lv_at hl 0 rfl) ?_
                                  refine lv_bipush (v := 6) hx hb dX0_inBerger_53 (by decide) ?_
                                  refine lv_icmp_ge (tgt := 102) hx hb dX0_inBerger_55 (by decide) (fun c_29 => ?_) (fun c_29 => ?_)
                                  · have c_29h : (6 : Int32) ≤ (6 : Int32) := c_29
                                    refine lv_lload_n hx hb dX0_inBerger_102 rfl (lv_at hl 1 rfl) ?_
                                    have hP9 := hP.sub (ws' := [(z, .inr (0, [v0, v1, .ref q2, v3, .ref q4, v5])), (q2, .inl (g.2.2.1, 6, .inr (.inl oc))), (q4, .inl (g.2.2.1, 3, .inr (.inl tf)))]) [0, 1, 2] rfl
                                    have hD9 := hD.sub (ws' := [(z, .inr (0, [v0, v1, .ref q2, v3, .ref q4, v5])), (q2, .inl (g.2.2.1, 6, .inr (.inl oc))), (q4, .inl (g.2.2.1, 3, .inr (.inl tf)))]) [0, 1, 2] (by decide) rfl
                                    exact W.lret (v := (((((((-1 : Int64) &&& (((tf 0) ^^^ (if (wt + 0) < o then oc (wt + 0) else 0)) ^^^ (-1 : Int64))) &&& (((tf 1) ^^^ (if (wt + 1) < o then oc (wt + 1) else 0)) ^^^ (-1 : Int64))) &&& (((tf 2) ^^^ (if (wt + 2) < o then oc (wt + 2) else 0)) ^^^ (-1 : Int64))) &&& (((0 : Int64) ^^^ (if (wt + 3) < o then oc (wt + 3) else 0)) ^^^ (-1 : Int64))) &&& (((0 : Int64) ^^^ (if (wt + 4) < o then oc (wt + 4) else 0)) ^^^ (-1 : Int64))) &&& (((0 : Int64) ^^^ (if (wt + 5) < o then oc (wt + 5) else 0)) ^^^ (-1 : Int64)))) hx hb hr (fun tt ht hW => ⟨⟨_, tf, rfl, fun w hw => by rw [decide_eq_true ((nI_leI (by omega) (by omega)).mp c_1)]; exact hk_ber hw ho hwt (show i = wt by have := hk_ge wt c_4; omega) hT, by rw [ht]; exact hP9, hD9⟩, hS.F ht⟩) hS.2.2 dX0_inBerger_103
                                  · have c_29h : ¬ (6 : Int32) ≤ (6 : Int32) := c_29
                                    exact absurd c_29 (by decide)
                                · have c_26h : ¬ (3 : Int32) ≤ (5 : Int32) := c_26
                                  exact absurd c_26 (by decide)
                            · have c_22h : ¬ (3 : Int32) ≤ (4 : Int32) := c_22
                              exact absurd c_22 (by decide)
                        · have c_18h : ¬ (3 : Int32) ≤ (3 : Int32) := c_18
                          exact absurd c_18 (by decide)
        · have c_4h : ¬ nI wt ≤ nI i := c_4
          refine lv_iload_n hx hb dX0_inBerger_18 rfl (lv_at hl 0 rfl) ?_
          refine lv_bipush (v := 6) hx hb dX0_inBerger_19 (by decide) ?_
          refine lv_icmp_ge (tgt := 44) hx hb dX0_inBerger_21 (by decide) (fun c_30 => ?_) (fun c_30 => ?_)
          · have c_30h : (6 : Int32) ≤ nI i := c_30
            exact absurd (hk_ge 6 c_30) (by have := hk_nge wt c_4; omega)
          · have c_30h : ¬ (6 : Int32) ≤ nI i := c_30
            refine lv_aload_n hx hb dX0_inBerger_24 rfl (lv_at hl 1 rfl) ?_
            refine lv_aload_n hx hb dX0_inBerger_25 rfl (lv_at hl 1 rfl) ?_
            refine va_get (D := D) (ci := 0) (v := .ref q2) (C := RX0) (T := TX0) (N := 6) hx hb hts hi0 hown hK hP 0 rfl rfl 2 (by decide) (hts (.fieldLink RX0 15 "SelfCheckingCircuit$Analysis" "outputColumns" "[J") (by decide +kernel)) (fun _ h9 => h9) rfl dX0_inBerger_26 ?_
            refine lv_iload_n hx hb dX0_inBerger_29 rfl (lv_at hl 0 rfl) ?_
            refine va_lald hx hb hK hP 1 2 rfl rfl (vp_in_nI (N := 6) (by have := hk_nge wt c_4; omega) (by decide)) dX0_inBerger_30 ?_
            refine hk_tl (oc i) (congrArg oc (nI_clamp (by omega))) ?_
            refine lv_ldc2 (own := RX0) (v := (-1)) hx hb hown (hts (.constantLong RX0 56 (-1)) (by decide +kernel)) dX0_inBerger_31 ?_
            refine lv_lxor hx hb dX0_inBerger_34 ?_
            refine hk_cmv (wr := [(q2, .inl (g.2.2.1, 6, .inr (.inl oc)))]) (va_runV (As := [.long ((oc i) ^^^ (-1 : Int64))]) (rest := []) ⟨hx, hb, hml, hown, hts⟩ (c0_addToTally l D g ti _ z v0 v1 (.ref q2) v3 v5 q4 tf ((oc i) ^^^ (-1 : Int64)) ) (cwV 1 hts gX0_inBerger_X0_addToTally rfl rfl rfl (by decide +kernel) ⟨Nat.le_of_ble_eq_true rfl, Nat.le_of_ble_eq_true rfl⟩) (hk_inV hE hP hD hS hA 0 rfl rfl [0, 2] (by decide) rfl rfl) rfl rfl hl.1 rfl (lv_room (Nat.le_of_ble_eq_true rfl)) dX0_inBerger_35 ⟨Nat.zero_le _, Nat.zero_le _⟩) hP hD hS hA [0, 2] [1] rfl rfl (by decide) (by decide) (fun tg H locs hr_32 hP hD hS => ?_)
            try dsimp only at hr_32
            have hP : va_P D vwCl [(q2, .inl (g.2.2.1, 6, .inr (.inl oc))), (z, .inr (0, [v0, v1, (.ref q2), v3, .ref q4, v5])), (q4, .inl (g.2.2.1, 3, .inr (.inl tg)))] H := hP
            have hD : va_D A [(q2, .inl (g.2.2.1, 6, .inr (.inl oc))), (z, .inr (0, [v0, v1, (.ref q2), v3, .ref q4, v5])), (q4, .inl (g.2.2.1, 3, .inr (.inl tg)))] := hD
            refine lv_iinc (v := (nI (i + 1))) (lv' := [(3, .int (nI (i + 1))), (0, .ref z), (1, .int (nI o)), (2, .int (nI wt))]) hx hb dX0_inBerger_38 hl (k := 0) rfl (nI_1 i) (by decide) rfl (fun ls hl => ?_)
            refine lv_goto (tgt := 13) hx hb dX0_inBerger_41 (by decide) ?_
            have hlt : i < wt := hk_nge wt c_4
            exact ih_13 (i + 1) tg (by omega) (by omega) (tD_n (tD_s hT (fun w => ct_6 _ (by omega)) hr_32)) _ _ (hP.sub [1, 0, 2] rfl) (hD.sub [1, 0, 2] (by decide) rfl) hS _ (lv_sub hl [0, 1, 2, 3] rfl)
    exact loop13 _ 0 tz (Nat.lt_succ_self _) (Nat.zero_le _) (tD_0 hr_3) _ _ (hP.sub [1, 0, 2] rfl) (hD.sub [1, 0, 2] (by decide) rfl) hS _ (lv_sub hl [0, 1, 2, 3] rfl)
  · have c_1h : ¬ nI wt ≤ nI o := c_1
    refine lv_lconst (v := 0) hx hb dX0_inBerger_5 (by decide) ?_
    have hP9 := hP.sub (ws' := [(z, .inr (0, [v0, v1, .ref q2, v3, .ref q4, v5])), (q2, .inl (g.2.2.1, 6, .inr (.inl oc))), (q4, .inl (g.2.2.1, 3, .inr (.inl tl)))]) [0, 1, 2] rfl
    have hD9 := hD.sub (ws' := [(z, .inr (0, [v0, v1, .ref q2, v3, .ref q4, v5])), (q2, .inl (g.2.2.1, 6, .inr (.inl oc))), (q4, .inl (g.2.2.1, 3, .inr (.inl tl)))]) [0, 1, 2] (by decide) rfl
    exact W.lret (v := 0) hx hb hr (fun tt ht hW => ⟨⟨_, tl, rfl, fun w hw => by rw [lb_0, decide_eq_false (fun q => c_1 ((nI_leI (by omega) (by omega)).mpr q))]; rfl, by rw [ht]; exact hP9, hD9⟩, hS.F ht⟩) hS.2.2 dX0_inBerger_6
theorem hk_ic0 {cd o m : Nat} {P : Nat → Bool} (h : (nI cd).toInt < 1 ∨ 3 < (nI cd).toInt) (hc : cd ≤ 3) : ic cd o m P = true := by
  rw [nI_toInt (by omega)] at h
  rw [show cd = 0 by omega]; rfl
theorem hk_ic1 {oc : Nat → Int64} {o m w : Nat} (hw : w < 64) : lb (if o % 2 = 1 then 0 else trL oc (o / 2)) w = ic 1 o m (fun k => lb (oc k) w) := by
  by_cases h : o % 2 = 1
  · rw [if_pos h, lb_0]; show _ = (decide (o % 2 = 0) && _); rw [decide_eq_false (by omega)]; rfl
  · rw [if_neg h, lb_trL oc hw]; show _ = (decide (o % 2 = 0) && _); rw [decide_eq_true (by omega)]; rfl
set_option maxHeartbeats 4000000 in
set_option maxRecDepth 100000 in
theorem c0_inCode (l : Launch) (D : va_G) (g : hk_G) (ti : Nat) (sz : Nat) (z : Nat) (q1 : Nat) (q2 : Nat) (q3 : Nat) (q4 : Nat) (q5 : Nat) (nc : Nat → Int64) (oc : Nat → Int64) (rc : Nat → Int64) (tl : Nat → Int64) (ef : Nat → Int64) (a : Nat) (t : Nat) (f1 : Nat) (f2 : Nat) (on : Nat) (ft : Nat → Int32) (fa : Nat → Int32) (fb : Nat → Int32) (fo : Nat → Int32) (n : Nat) (N : Nat) (o : Nat) (nm : Int64) (cd : Nat) (wt : Nat) (ho : o ≤ 6) (hwt : wt ≤ 6) (hcd : cd ≤ 3) : Met l yX0_inCode wsX0_inCode ({ frames := 2, cells := 0, slots := 0, locals := 54 }) (va_Pc [.ref z] (hk_In D g ti [(z, .inr (0, [.ref a, .ref q1, .ref q2, .ref q3, .ref q4, .ref q5])), (q1, .inl (g.2.2.1, 30, .inr (.inl nc))), (q2, .inl (g.2.2.1, 6, .inr (.inl oc))), (q3, .inl (g.2.2.1, 6, .inr (.inl rc))), (q4, .inl (g.2.2.1, 3, .inr (.inl tl))), (q5, .inl (g.2.2.1, 64, .inr (.inl ef))), (a, .inr (1, [.ref t, .ref f1, .ref f2, .ref on, .int (nI n), .int (nI N), .int (nI o), .long nm, .int (nI cd), .int (nI wt)])), (t, .inl (g.2.1, 30, .inl ft)), (f1, .inl (g.2.1, 30, .inl fa)), (f2, .inl (g.2.1, 30, .inl fb)), (on, .inl (g.2.1, 6, .inl fo))] sz)) (va_Ql (S := Nat → Int64) (fun r _ => ∀ w, w < 64 → lb r w = ic cd o wt (fun k => lb (oc k) w)) (fun u => hk_Out D (va_A [(z, .inr (0, [.ref a, .ref q1, .ref q2, .ref q3, .ref q4, .ref q5])), (q1, .inl (g.2.2.1, 30, .inr (.inl nc))), (q2, .inl (g.2.2.1, 6, .inr (.inl oc))), (q3, .inl (g.2.2.1, 6, .inr (.inl rc))), (q4, .inl (g.2.2.1, 3, .inr (.inl tl))), (q5, .inl (g.2.2.1, 64, .inr (.inl ef))), (a, .inr (1, [.ref t, .ref f1, .ref f2, .ref on, .int (nI n), .int (nI N), .int (nI o), .long nm, .int (nI cd), .int (nI wt)])), (t, .inl (g.2.1, 30, .inl ft)), (f1, .inl (g.2.1, 30, .inl fa)), (f2, .inl (g.2.1, 30, .inl fb)), (on, .inl (g.2.1, 6, .inl fo))] sz) (match u with | f' => [(z, .inr (0, [.ref a, .ref q1, .ref q2, .ref q3, .ref q4, .ref q5])), (q1, .inl (g.2.2.1, 30, .inr (.inl nc))), (q2, .inl (g.2.2.1, 6, .inr (.inl oc))), (q3, .inl (g.2.2.1, 6, .inr (.inl rc))), (q4, .inl (g.2.2.1, 3, .inr (.inl f'))), (q5, .inl (g.2.2.1, 64, .inr (.inl ef))), (a, .inr (1, [.ref t, .ref f1, .ref f2, .ref on, .int (nI n), .int (nI N), .int (nI o), .long nm, .int (nI cd), .int (nI wt)])), (t, .inl (g.2.1, 30, .inl ft)), (f1, .inl (g.2.1, 30, .inl fa)), (f2, .inl (g.2.1, 30, .inl fb)), (on, .inl (g.2.1, 6, .inl fo))])) (va_A [(z, .inr (0, [.ref a, .ref q1, .ref q2, .ref q3, .ref q4, .ref q5])), (q1, .inl (g.2.2.1, 30, .inr (.inl nc))), (q2, .inl (g.2.2.1, 6, .inr (.inl oc))), (q3, .inl (g.2.2.1, 6, .inr (.inl rc))), (q4, .inl (g.2.2.1, 3, .inr (.inl tl))), (q5, .inl (g.2.2.1, 64, .inr (.inl ef))), (a, .inr (1, [.ref t, .ref f1, .ref f2, .ref on, .int (nI n), .int (nI N), .int (nI o), .long nm, .int (nI cd), .int (nI wt)])), (t, .inl (g.2.1, 30, .inl ft)), (f1, .inl (g.2.1, 30, .inl fa)), (f2, .inl (g.2.1, 30, .inl fb)), (on, .inl (g.2.1, 6, .inl fo))] sz)) 0 0 (va_A [(z, .inr (0, [.ref a, .ref q1, .ref q2, .ref q3, .ref q4, .ref q5])), (q1, .inl (g.2.2.1, 30, .inr (.inl nc))), (q2, .inl (g.2.2.1, 6, .inr (.inl oc))), (q3, .inl (g.2.2.1, 6, .inr (.inl rc))), (q4, .inl (g.2.2.1, 3, .inr (.inl tl))), (q5, .inl (g.2.2.1, 64, .inr (.inl ef))), (a, .inr (1, [.ref t, .ref f1, .ref f2, .ref on, .int (nI n), .int (nI N), .int (nI o), .long nm, .int (nI cd), .int (nI wt)])), (t, .inl (g.2.1, 30, .inl ft)), (f1, .inl (g.2.1, 30, .inl fa)), (f2, .inl (g.2.1, 30, .inl fb)), (on, .inl (g.2.1, 6, .inl fo))] sz) := by
  refine Met.ofW (cc := cX0_inCode) (maxL := 1) (ret := (some .long)) (by decide) rfl ?_
  intro p e s m args below meth c s₁ Bd hml hv
  obtain ⟨rfl, hsz, hP, hD0, hE⟩ := hv
  have hx := Bd.exec
  have hb := Bd.bytes
  have hr := Bd.returns
  have hts := atoms_spec (ws := wsX0_inCode) Bd.pre
  have hown : s.vm.findClass RX0 = some m.cls := findClass_of_methodNamed Bd.named
  have hlocks := Bd.notSynchronized
  have hK := hE.1
  have hi0 : ∀ w ∈ wsX00, w ∈ wsX0_inCode := fun w h => List.mem_cons_of_mem _ (List.mem_append_left _ (List.mem_append_right _ h))
  have hi1 : ∀ w ∈ wsX10, w ∈ wsX0_inCode := fun w h => List.mem_cons_of_mem _ (List.mem_append_right _ h)
  subst hsz
  have hD := hD0.self (sz := s.heap.size)
  generalize hAe : va_A [(z, .inr (0, [.ref a, .ref q1, .ref q2, .ref q3, .ref q4, .ref q5])), (q1, .inl (g.2.2.1, 30, .inr (.inl nc))), (q2, .inl (g.2.2.1, 6, .inr (.inl oc))), (q3, .inl (g.2.2.1, 6, .inr (.inl rc))), (q4, .inl (g.2.2.1, 3, .inr (.inl tl))), (q5, .inl (g.2.2.1, 64, .inr (.inl ef))), (a, .inr (1, [.ref t, .ref f1, .ref f2, .ref on, .int (nI n), .int (nI N), .int (nI o), .long nm, .int (nI cd), .int (nI wt)])), (t, .inl (g.2.1, 30, .inl ft)), (f1, .inl (g.2.1, 30, .inl fa)), (f2, .inl (g.2.1, 30, .inl fb)), (on, .inl (g.2.1, 6, .inl fo))] s.heap.size = A at hD hE ⊢
  have hA : ∀ q : Nat, s.heap.size ≤ q → A q := fun q h => by rw [← hAe]; exact Or.inr h
  have hS : va_S A s.heap s.heap [] := va_S.rf
  have hl := lv_entry ([.ref z]) (n := 1) (Nat.le_of_ble_eq_true rfl)
  rw [lg_entry_eq]
  generalize (lg_sl ([.ref z]) ++ List.replicate (1 - (lg_sl ([.ref z])).length) Slot.unset).toArray = ls at hl ⊢
  have hl : lv_has ls 1 [(0, .ref z)] := hl
  refine lv_aload_n hx hb dX0_inCode_0 rfl (lv_at hl 0 rfl) ?_
  refine va_get (D := D) (ci := 0) (v := .ref a) (C := RX0) (T := TX0) (N := 6) hx hb hts hi0 hown hK hP 0 rfl rfl 0 (by decide) (hts (.fieldLink RX0 27 "SelfCheckingCircuit$Analysis" "circuit" "LSelfCheckingCircuit$Circuit;") (by decide +kernel)) (fun _ h9 => h9) rfl dX0_inCode_1 ?_
  refine va_getN (D := D) (ci := 1) (v := .int (nI cd)) (C := RX1) (T := TX1) (N := 10) hx hb hts hi1 hown hK hP 6 rfl rfl 8 (by decide) (nf_X0_123 hE.2.1) (fun _ h9 => h9) rfl dX0_inCode_4 ?_
  rcases hk_sw1_3 (nI cd) with c_2 | c_2 | c_2 | c_2
  · refine hk_ti 1 c_2 ?_
    refine lv_tableIn (tgt := 32) (off := 25) hx hb dX0_inCode_7 (by decide) (by decide) rfl (by decide) ?_
    refine lv_aload_n hx hb dX0_inCode_32 rfl (lv_at hl 0 rfl) ?_
    refine lv_aload_n hx hb dX0_inCode_33 rfl (lv_at hl 0 rfl) ?_
    refine va_get (D := D) (ci := 0) (v := .ref a) (C := RX0) (T := TX0) (N := 6) hx hb hts hi0 hown hK hP 0 rfl rfl 0 (by decide) (hts (.fieldLink RX0 27 "SelfCheckingCircuit$Analysis" "circuit" "LSelfCheckingCircuit$Circuit;") (by decide +kernel)) (fun _ h9 => h9) rfl dX0_inCode_34 ?_
    refine va_getN (D := D) (ci := 1) (v := .int (nI o)) (C := RX1) (T := TX1) (N := 10) hx hb hts hi1 hown hK hP 6 rfl rfl 6 (by decide) (nf_X0_64 hE.2.1) (fun _ h9 => h9) rfl dX0_inCode_37 ?_
    refine hk_csl (va_runV (As := [.int (nI o)]) (rest := []) ⟨hx, hb, hml, hown, hts⟩ (c0_inTwoRail l D g ti z (.ref a) (.ref q1) (.ref q3) (.ref q4) (.ref q5) q2 oc o ho) (cwV 1 hts gX0_inCode_X0_inTwoRail rfl rfl rfl (by decide +kernel) ⟨Nat.le_of_ble_eq_true rfl, Nat.le_of_ble_eq_true rfl⟩) (hk_roV hE hP hS 0 rfl rfl [0, 2] rfl rfl) rfl rfl hl.1 rfl (lv_room (Nat.le_of_ble_eq_true rfl)) dX0_inCode_40 ⟨Nat.zero_le _, Nat.zero_le _⟩) (fun r_3 hr_4 => ?_)
    subst hr_4
    have hP9 := hP.sub (ws' := [(z, .inr (0, [.ref a, .ref q1, .ref q2, .ref q3, .ref q4, .ref q5])), (q1, .inl (g.2.2.1, 30, .inr (.inl nc))), (q2, .inl (g.2.2.1, 6, .inr (.inl oc))), (q3, .inl (g.2.2.1, 6, .inr (.inl rc))), (q4, .inl (g.2.2.1, 3, .inr (.inl tl))), (q5, .inl (g.2.2.1, 64, .inr (.inl ef))), (a, .inr (1, [.ref t, .ref f1, .ref f2, .ref on, .int (nI n), .int (nI N), .int (nI o), .long nm, .int (nI cd), .int (nI wt)])), (t, .inl (g.2.1, 30, .inl ft)), (f1, .inl (g.2.1, 30, .inl fa)), (f2, .inl (g.2.1, 30, .inl fb)), (on, .inl (g.2.1, 6, .inl fo))]) [0, 1, 2, 3, 4, 5, 6, 7, 8, 9, 10] rfl
    have hD9 := hD.sub (ws' := [(z, .inr (0, [.ref a, .ref q1, .ref q2, .ref q3, .ref q4, .ref q5])), (q1, .inl (g.2.2.1, 30, .inr (.inl nc))), (q2, .inl (g.2.2.1, 6, .inr (.inl oc))), (q3, .inl (g.2.2.1, 6, .inr (.inl rc))), (q4, .inl (g.2.2.1, 3, .inr (.inl tl))), (q5, .inl (g.2.2.1, 64, .inr (.inl ef))), (a, .inr (1, [.ref t, .ref f1, .ref f2, .ref on, .int (nI n), .int (nI N), .int (nI o), .long nm, .int (nI cd), .int (nI wt)])), (t, .inl (g.2.1, 30, .inl ft)), (f1, .inl (g.2.1, 30, .inl fa)), (f2, .inl (g.2.1, 30, .inl fb)), (on, .inl (g.2.1, 6, .inl fo))]) [0, 1, 2, 3, 4, 5, 6, 7, 8, 9, 10] (by decide) rfl
    exact W.lret (v := (if o % 2 = 1 then 0 else trL oc (o / 2))) hx hb hr (fun tt ht hW => ⟨⟨_, tl, rfl, fun w hw => by have e1 : cd = 1 := (nI_eq (by omega) (by omega)).mp c_2; subst e1; exact hk_ic1 hw, by rw [ht]; exact hP9, hD9⟩, hS.F ht⟩) hS.2.2 dX0_inCode_43
  · refine hk_ti 2 c_2 ?_
    refine lv_tableIn (tgt := 44) (off := 37) hx hb dX0_inCode_7 (by decide) (by decide) rfl (by decide) ?_
    refine lv_aload_n hx hb dX0_inCode_44 rfl (lv_at hl 0 rfl) ?_
    refine lv_aload_n hx hb dX0_inCode_45 rfl (lv_at hl 0 rfl) ?_
    refine va_get (D := D) (ci := 0) (v := .ref a) (C := RX0) (T := TX0) (N := 6) hx hb hts hi0 hown hK hP 0 rfl rfl 0 (by decide) (hts (.fieldLink RX0 27 "SelfCheckingCircuit$Analysis" "circuit" "LSelfCheckingCircuit$Circuit;") (by decide +kernel)) (fun _ h9 => h9) rfl dX0_inCode_46 ?_
    refine va_getN (D := D) (ci := 1) (v := .int (nI o)) (C := RX1) (T := TX1) (N := 10) hx hb hts hi1 hown hK hP 6 rfl rfl 6 (by decide) (nf_X0_64 hE.2.1) (fun _ h9 => h9) rfl dX0_inCode_49 ?_
    refine lv_aload_n hx hb dX0_inCode_52 rfl (lv_at hl 0 rfl) ?_
    refine va_get (D := D) (ci := 0) (v := .ref a) (C := RX0) (T := TX0) (N := 6) hx hb hts hi0 hown hK hP 0 rfl rfl 0 (by decide) (hts (.fieldLink RX0 27 "SelfCheckingCircuit$Analysis" "circuit" "LSelfCheckingCircuit$Circuit;") (by decide +kernel)) (fun _ h9 => h9) rfl dX0_inCode_53 ?_
    refine va_getN (D := D) (ci := 1) (v := .int (nI wt)) (C := RX1) (T := TX1) (N := 10) hx hb hts hi1 hown hK hP 6 rfl rfl 9 (by decide) (nf_X0_129 hE.2.1) (fun _ h9 => h9) rfl dX0_inCode_56 ?_
    refine hk_cml (wr := [(q1, .inl (g.2.2.1, 30, .inr (.inl nc))), (q3, .inl (g.2.2.1, 6, .inr (.inl rc))), (q5, .inl (g.2.2.1, 64, .inr (.inl ef))), (a, .inr (1, [.ref t, .ref f1, .ref f2, .ref on, .int (nI n), .int (nI N), .int (nI o), .long nm, .int (nI cd), .int (nI wt)])), (t, .inl (g.2.1, 30, .inl ft)), (f1, .inl (g.2.1, 30, .inl fa)), (f2, .inl (g.2.1, 30, .inl fb)), (on, .inl (g.2.1, 6, .inl fo))]) (va_runV (As := [.int (nI o), .int (nI wt)]) (rest := []) ⟨hx, hb, hml, hown, hts⟩ (c0_inConstantWeight l D g ti _ z (.ref a) (.ref q1) (.ref q3) (.ref q5) q2 oc q4 tl o wt ho hwt) (cwV 2 hts gX0_inCode_X0_inConstantWeight rfl rfl rfl (by decide +kernel) ⟨Nat.le_of_ble_eq_true rfl, Nat.le_of_ble_eq_true rfl⟩) (hk_inV hE hP hD hS hA 0 rfl rfl [0, 2, 4] (by decide) rfl rfl) rfl rfl hl.1 rfl (lv_room (Nat.le_of_ble_eq_true rfl)) dX0_inCode_59 ⟨Nat.zero_le _, Nat.zero_le _⟩) hP hD hS hA [0, 2, 4] [1, 3, 5, 6, 7, 8, 9, 10] rfl rfl (by decide) (by decide) (fun r_5 tg H locs hr_6 hP hD hS => ?_)
    try dsimp only at hr_6
    have hP : va_P D vwCl [(q1, .inl (g.2.2.1, 30, .inr (.inl nc))), (q3, .inl (g.2.2.1, 6, .inr (.inl rc))), (q5, .inl (g.2.2.1, 64, .inr (.inl ef))), (a, .inr (1, [.ref t, .ref f1, .ref f2, .ref on, .int (nI n), .int (nI N), .int (nI o), .long nm, .int (nI cd), .int (nI wt)])), (t, .inl (g.2.1, 30, .inl ft)), (f1, .inl (g.2.1, 30, .inl fa)), (f2, .inl (g.2.1, 30, .inl fb)), (on, .inl (g.2.1, 6, .inl fo)), (z, .inr (0, [(.ref a), (.ref q1), .ref q2, (.ref q3), .ref q4, (.ref q5)])), (q2, .inl (g.2.2.1, 6, .inr (.inl oc))), (q4, .inl (g.2.2.1, 3, .inr (.inl tg)))] H := hP
    have hD : va_D A [(q1, .inl (g.2.2.1, 30, .inr (.inl nc))), (q3, .inl (g.2.2.1, 6, .inr (.inl rc))), (q5, .inl (g.2.2.1, 64, .inr (.inl ef))), (a, .inr (1, [.ref t, .ref f1, .ref f2, .ref on, .int (nI n), .int (nI N), .int (nI o), .long nm, .int (nI cd), .int (nI wt)])), (t, .inl (g.2.1, 30, .inl ft)), (f1, .inl (g.2.1, 30, .inl fa)), (f2, .inl (g.2.1, 30, .inl fb)), (on, .inl (g.2.1, 6, .inl fo)), (z, .inr (0, [(.ref a), (.ref q1), .ref q2, (.ref q3), .ref q4, (.ref q5)])), (q2, .inl (g.2.2.1, 6, .inr (.inl oc))), (q4, .inl (g.2.2.1, 3, .inr (.inl tg)))] := hD
    have hP9 := hP.sub (ws' := [(z, .inr (0, [.ref a, .ref q1, .ref q2, .ref q3, .ref q4, .ref q5])), (q1, .inl (g.2.2.1, 30, .inr (.inl nc))), (q2, .inl (g.2.2.1, 6, .inr (.inl oc))), (q3, .inl (g.2.2.1, 6, .inr (.inl rc))), (q4, .inl (g.2.2.1, 3, .inr (.inl tg))), (q5, .inl (g.2.2.1, 64, .inr (.inl ef))), (a, .inr (1, [.ref t, .ref f1, .ref f2, .ref on, .int (nI n), .int (nI N), .int (nI o), .long nm, .int (nI cd), .int (nI wt)])), (t, .inl (g.2.1, 30, .inl ft)), (f1, .inl (g.2.1, 30, .inl fa)), (f2, .inl (g.2.1, 30, .inl fb)), (on, .inl (g.2.1, 6, .inl fo))]) [8, 0, 9, 1, 10, 2, 3, 4, 5, 6, 7] rfl
    have hD9 := hD.sub (ws' := [(z, .inr (0, [.ref a, .ref q1, .ref q2, .ref q3, .ref q4, .ref q5])), (q1, .inl (g.2.2.1, 30, .inr (.inl nc))), (q2, .inl (g.2.2.1, 6, .inr (.inl oc))), (q3, .inl (g.2.2.1, 6, .inr (.inl rc))), (q4, .inl (g.2.2.1, 3, .inr (.inl tg))), (q5, .inl (g.2.2.1, 64, .inr (.inl ef))), (a, .inr (1, [.ref t, .ref f1, .ref f2, .ref on, .int (nI n), .int (nI N), .int (nI o), .long nm, .int (nI cd), .int (nI wt)])), (t, .inl (g.2.1, 30, .inl ft)), (f1, .inl (g.2.1, 30, .inl fa)), (f2, .inl (g.2.1, 30, .inl fb)), (on, .inl (g.2.1, 6, .inl fo))]) [8, 0, 9, 1, 10, 2, 3, 4, 5, 6, 7] (by decide) rfl
    exact W.lret (v := r_5) hx hb hr (fun tt ht hW => ⟨⟨_, tg, rfl, fun w hw => by have e1 : cd = 2 := (nI_eq (by omega) (by omega)).mp c_2; subst e1; exact hr_6 w hw, by rw [ht]; exact hP9, hD9⟩, hS.F ht⟩) hS.2.2 dX0_inCode_62
  · refine hk_ti 3 c_2 ?_
    refine lv_tableIn (tgt := 63) (off := 56) hx hb dX0_inCode_7 (by decide) (by decide) rfl (by decide) ?_
    refine lv_aload_n hx hb dX0_inCode_63 rfl (lv_at hl 0 rfl) ?_
    refine lv_aload_n hx hb dX0_inCode_64 rfl (lv_at hl 0 rfl) ?_
    refine va_get (D := D) (ci := 0) (v := .ref a) (C := RX0) (T := TX0) (N := 6) hx hb hts hi0 hown hK hP 0 rfl rfl 0 (by decide) (hts (.fieldLink RX0 27 "SelfCheckingCircuit$Analysis" "circuit" "LSelfCheckingCircuit$Circuit;") (by decide +kernel)) (fun _ h9 => h9) rfl dX0_inCode_65 ?_
    refine va_getN (D := D) (ci := 1) (v := .int (nI o)) (C := RX1) (T := TX1) (N := 10) hx hb hts hi1 hown hK hP 6 rfl rfl 6 (by decide) (nf_X0_64 hE.2.1) (fun _ h9 => h9) rfl dX0_inCode_68 ?_
    refine lv_aload_n hx hb dX0_inCode_71 rfl (lv_at hl 0 rfl) ?_
    refine va_get (D := D) (ci := 0) (v := .ref a) (C := RX0) (T := TX0) (N := 6) hx hb hts hi0 hown hK hP 0 rfl rfl 0 (by decide) (hts (.fieldLink RX0 27 "SelfCheckingCircuit$Analysis" "circuit" "LSelfCheckingCircuit$Circuit;") (by decide +kernel)) (fun _ h9 => h9) rfl dX0_inCode_72 ?_
    refine va_getN (D := D) (ci := 1) (v := .int (nI wt)) (C := RX1) (T := TX1) (N := 10) hx hb hts hi1 hown hK hP 6 rfl rfl 9 (by decide) (nf_X0_129 hE.2.1) (fun _ h9 => h9) rfl dX0_inCode_75 ?_
    refine hk_cml (wr := [(q1, .inl (g.2.2.1, 30, .inr (.inl nc))), (q3, .inl (g.2.2.1, 6, .inr (.inl rc))), (q5, .inl (g.2.2.1, 64, .inr (.inl ef))), (a, .inr (1, [.ref t, .ref f1, .ref f2, .ref on, .int (nI n), .int (nI N), .int (nI o), .long nm, .int (nI cd), .int (nI wt)])), (t, .inl (g.2.1, 30, .inl ft)), (f1, .inl (g.2.1, 30, .inl fa)), (f2, .inl (g.2.1, 30, .inl fb)), (on, .inl (g.2.1, 6, .inl fo))]) (va_runV (As := [.int (nI o), .int (nI wt)]) (rest := []) ⟨hx, hb, hml, hown, hts⟩ (c0_inBerger l D g ti _ z (.ref a) (.ref q1) (.ref q3) (.ref q5) q2 oc q4 tl o wt ho hwt) (cwV 2 hts gX0_inCode_X0_inBerger rfl rfl rfl (by decide +kernel) ⟨Nat.le_of_ble_eq_true rfl, Nat.le_of_ble_eq_true rfl⟩) (hk_inV hE hP hD hS hA 0 rfl rfl [0, 2, 4] (by decide) rfl rfl) rfl rfl hl.1 rfl (lv_room (Nat.le_of_ble_eq_true rfl)) dX0_inCode_78 ⟨Nat.zero_le _, Nat.zero_le _⟩) hP hD hS hA [0, 2, 4] [1, 3, 5, 6, 7, 8, 9, 10] rfl rfl (by decide) (by decide) (fun r_7 tg H locs hr_8 hP hD hS => ?_)
    try dsimp only at hr_8
    have hP : va_P D vwCl [(q1, .inl (g.2.2.1, 30, .inr (.inl nc))), (q3, .inl (g.2.2.1, 6, .inr (.inl rc))), (q5, .inl (g.2.2.1, 64, .inr (.inl ef))), (a, .inr (1, [.ref t, .ref f1, .ref f2, .ref on, .int (nI n), .int (nI N), .int (nI o), .long nm, .int (nI cd), .int (nI wt)])), (t, .inl (g.2.1, 30, .inl ft)), (f1, .inl (g.2.1, 30, .inl fa)), (f2, .inl (g.2.1, 30, .inl fb)), (on, .inl (g.2.1, 6, .inl fo)), (z, .inr (0, [(.ref a), (.ref q1), .ref q2, (.ref q3), .ref q4, (.ref q5)])), (q2, .inl (g.2.2.1, 6, .inr (.inl oc))), (q4, .inl (g.2.2.1, 3, .inr (.inl tg)))] H := hP
    have hD : va_D A [(q1, .inl (g.2.2.1, 30, .inr (.inl nc))), (q3, .inl (g.2.2.1, 6, .inr (.inl rc))), (q5, .inl (g.2.2.1, 64, .inr (.inl ef))), (a, .inr (1, [.ref t, .ref f1, .ref f2, .ref on, .int (nI n), .int (nI N), .int (nI o), .long nm, .int (nI cd), .int (nI wt)])), (t, .inl (g.2.1, 30, .inl ft)), (f1, .inl (g.2.1, 30, .inl fa)), (f2, .inl (g.2.1, 30, .inl fb)), (on, .inl (g.2.1, 6, .inl fo)), (z, .inr (0, [(.ref a), (.ref q1), .ref q2, (.ref q3), .ref q4, (.ref q5)])), (q2, .inl (g.2.2.1, 6, .inr (.inl oc))), (q4, .inl (g.2.2.1, 3, .inr (.inl tg)))] := hD
    have hP9 := hP.sub (ws' := [(z, .inr (0, [.ref a, .ref q1, .ref q2, .ref q3, .ref q4, .ref q5])), (q1, .inl (g.2.2.1, 30, .inr (.inl nc))), (q2, .inl (g.2.2.1, 6, .inr (.inl oc))), (q3, .inl (g.2.2.1, 6, .inr (.inl rc))), (q4, .inl (g.2.2.1, 3, .inr (.inl tg))), (q5, .inl (g.2.2.1, 64, .inr (.inl ef))), (a, .inr (1, [.ref t, .ref f1, .ref f2, .ref on, .int (nI n), .int (nI N), .int (nI o), .long nm, .int (nI cd), .int (nI wt)])), (t, .inl (g.2.1, 30, .inl ft)), (f1, .inl (g.2.1, 30, .inl fa)), (f2, .inl (g.2.1, 30, .inl fb)), (on, .inl (g.2.1, 6, .inl fo))]) [8, 0, 9, 1, 10, 2, 3, 4, 5, 6, 7] rfl
    have hD9 := hD.sub (ws' := [(z, .inr (0, [.ref a, .ref q1, .ref q2, .ref q3, .ref q4, .ref q5])), (q1, .inl (g.2.2.1, 30, .inr (.inl nc))), (q2, .inl (g.2.2.1, 6, .inr (.inl oc))), (q3, .inl (g.2.2.1, 6, .inr (.inl rc))), (q4, .inl (g.2.2.1, 3, .inr (.inl tg))), (q5, .inl (g.2.2.1, 64, .inr (.inl ef))), (a, .inr (1, [.ref t, .ref f1, .ref f2, .ref on, .int (nI n), .int (nI N), .int (nI o), .long nm, .int (nI cd), .int (nI wt)])), (t, .inl (g.2.1, 30, .inl ft)), (f1, .inl (g.2.1, 30, .inl fa)), (f2, .inl (g.2.1, 30, .inl fb)), (on, .inl (g.2.1, 6, .inl fo))]) [8, 0, 9, 1, 10, 2, 3, 4, 5, 6, 7] (by decide) rfl
    exact W.lret (v := r_7) hx hb hr (fun tt ht hW => ⟨⟨_, tg, rfl, fun w hw => by have e1 : cd = 3 := (nI_eq (by omega) (by omega)).mp c_2; subst e1; exact hr_8 w hw, by rw [ht]; exact hP9, hD9⟩, hS.F ht⟩) hS.2.2 dX0_inCode_81
  · refine lv_tableOut (tgt := 82) hx hb dX0_inCode_7 c_2 (by decide) ?_
    refine lv_ldc2 (own := RX0) (v := (-1)) hx hb hown (hts (.constantLong RX0 56 (-1)) (by decide +kernel)) dX0_inCode_82 ?_
    have hP9 := hP.sub (ws' := [(z, .inr (0, [.ref a, .ref q1, .ref q2, .ref q3, .ref q4, .ref q5])), (q1, .inl (g.2.2.1, 30, .inr (.inl nc))), (q2, .inl (g.2.2.1, 6, .inr (.inl oc))), (q3, .inl (g.2.2.1, 6, .inr (.inl rc))), (q4, .inl (g.2.2.1, 3, .inr (.inl tl))), (q5, .inl (g.2.2.1, 64, .inr (.inl ef))), (a, .inr (1, [.ref t, .ref f1, .ref f2, .ref on, .int (nI n), .int (nI N), .int (nI o), .long nm, .int (nI cd), .int (nI wt)])), (t, .inl (g.2.1, 30, .inl ft)), (f1, .inl (g.2.1, 30, .inl fa)), (f2, .inl (g.2.1, 30, .inl fb)), (on, .inl (g.2.1, 6, .inl fo))]) [0, 1, 2, 3, 4, 5, 6, 7, 8, 9, 10] rfl
    have hD9 := hD.sub (ws' := [(z, .inr (0, [.ref a, .ref q1, .ref q2, .ref q3, .ref q4, .ref q5])), (q1, .inl (g.2.2.1, 30, .inr (.inl nc))), (q2, .inl (g.2.2.1, 6, .inr (.inl oc))), (q3, .inl (g.2.2.1, 6, .inr (.inl rc))), (q4, .inl (g.2.2.1, 3, .inr (.inl tl))), (q5, .inl (g.2.2.1, 64, .inr (.inl ef))), (a, .inr (1, [.ref t, .ref f1, .ref f2, .ref on, .int (nI n), .int (nI N), .int (nI o), .long nm, .int (nI cd), .int (nI wt)])), (t, .inl (g.2.1, 30, .inl ft)), (f1, .inl (g.2.1, 30, .inl fa)), (f2, .inl (g.2.1, 30, .inl fb)), (on, .inl (g.2.1, 6, .inl fo))]) [0, 1, 2, 3, 4, 5, 6, 7, 8, 9, 10] (by decide) rfl
    exact W.lret (v := (-1)) hx hb hr (fun tt ht hW => ⟨⟨_, tl, rfl, fun w hw => by rw [lb_m1 w hw]; exact (hk_ic0 c_2 hcd).symm, by rw [ht]; exact hP9, hD9⟩, hS.F ht⟩) hS.2.2 dX0_inCode_85
