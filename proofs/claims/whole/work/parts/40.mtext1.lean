set_option maxHeartbeats 4000000 in
set_option maxRecDepth 100000 in
theorem c6_here (l : Launch) (D : va_G) (g : hk_G) (ti : Nat) (mo : Nat) (ms : Nat) (mr : Nat) (mk : Nat) (mt : Nat) (mv : Nat) (me : Nat) (km : Nat) (ws : Nat) (L : Nat) (pz : Nat) (rx : Int32) (fx : Nat → Int32) (tx : Nat → Nat) (hX : TX tx L fx) (hp : pz < 900) : Met l yX6_here wsX6_here ({ frames := 0, cells := 0, slots := 0, locals := 0 }) (va_Pc [.ref mo] (hk_Ro D g ti [(mo, .inr (6, [.ref ms, .ref mr, .ref mk, .int (nI km), .ref mt, .int (nI L), .int (nI pz), .int rx, .int (nI ws), .ref mv, .ref me])), (mt, .inl (g.2.1, 200, .inl fx))])) (vp_Si (fun r => r = nI (ca tx L pz))) 0 0 (fun _ => False) := by
  refine Met.ofW (cc := cX6_here) (maxL := 1) (ret := (some .int)) (by decide) rfl ?_
  intro p e s m args below meth c s₁ Bd hml hv
  obtain ⟨rfl, hP, hE⟩ := hv
  have hx := Bd.exec
  have hb := Bd.bytes
  have hr := Bd.returns
  have hts := atoms_spec (ws := wsX6_here) Bd.pre
  have hown : s.vm.findClass RX6 = some m.cls := findClass_of_methodNamed Bd.named
  have hlocks := Bd.notSynchronized
  have hK := hE.1
  have hi6 : ∀ w ∈ wsX60, w ∈ wsX6_here := fun w h => List.mem_cons_of_mem _ (List.mem_append_right _ h)
  have hS : va_S (fun _ => False) s.heap s.heap [] := va_S.rf
  have hl := lv_entry ([.ref mo]) (n := 1) (Nat.le_of_ble_eq_true rfl)
  rw [lg_entry_eq]
  generalize (lg_sl ([.ref mo]) ++ List.replicate (1 - (lg_sl ([.ref mo])).length) Slot.unset).toArray = ls at hl ⊢
  have hl : lv_has ls 1 [(0, .ref mo)] := hl
  refine lv_aload_n hx hb dX6_here_0 rfl (lv_at hl 0 rfl) ?_
  refine va_get (D := D) (ci := 6) (v := .int (nI pz)) (C := RX6) (T := TX6) (N := 11) hx hb hts hi6 hown hK hP 0 rfl rfl 6 (by decide) (hts (.fieldLink RX6 45 "SelfCheckingCircuitModel" "spot" "I") (by decide +kernel)) (fun _ h9 => h9) rfl dX6_here_1 ?_
  refine lv_aload_n hx hb dX6_here_4 rfl (lv_at hl 0 rfl) ?_
  refine va_get (D := D) (ci := 6) (v := .int (nI L)) (C := RX6) (T := TX6) (N := 11) hx hb hts hi6 hown hK hP 0 rfl rfl 5 (by decide) (hts (.fieldLink RX6 41 "SelfCheckingCircuitModel" "length" "I") (by decide +kernel)) (fun _ h9 => h9) rfl dX6_here_5 ?_
  refine lv_icmp_ge (tgt := 23) hx hb dX6_here_8 (by decide) (fun c_1 => ?_) (fun c_1 => ?_)
  · have c_1h : nI L ≤ nI pz := c_1
    refine lv_iconst (v := 0) hx hb dX6_here_23 (by decide) ?_
    exact W.iret (v := 0) hx hb hr (fun tt ht hW => ⟨_, rfl, by unfold ca; rw [if_neg (by have := hk_ge L c_1 (hi := by omega) (hn := by have := hX.1; omega); omega)]; rfl, ht⟩) (fun _ h => by cases h) dX6_here_24
  · have c_1h : ¬ nI L ≤ nI pz := c_1
    refine lv_aload_n hx hb dX6_here_11 rfl (lv_at hl 0 rfl) ?_
    refine va_get (D := D) (ci := 6) (v := .ref mt) (C := RX6) (T := TX6) (N := 11) hx hb hts hi6 hown hK hP 0 rfl rfl 4 (by decide) (hts (.fieldLink RX6 19 "SelfCheckingCircuitModel" "text" "[I") (by decide +kernel)) (fun _ h9 => h9) rfl dX6_here_12 ?_
    refine lv_aload_n hx hb dX6_here_15 rfl (lv_at hl 0 rfl) ?_
    refine va_get (D := D) (ci := 6) (v := .int (nI pz)) (C := RX6) (T := TX6) (N := 11) hx hb hts hi6 hown hK hP 0 rfl rfl 6 (by decide) (hts (.fieldLink RX6 45 "SelfCheckingCircuitModel" "spot" "I") (by decide +kernel)) (fun _ h9 => h9) rfl dX6_here_16 ?_
    refine va_iald hx hb hK hP 1 1 rfl rfl (vp_in_nI (N := 200) (by have := hk_nge L c_1 (hi := by omega) (hn := by have := hX.1; omega); have := hX.1; omega) (by decide)) dX6_here_19 ?_
    refine hk_ti (fx pz) (congrArg fx (nI_clamp (by omega))) ?_
    refine lv_goto (tgt := 24) hx hb dX6_here_20 (by decide) ?_
    exact W.iret (v := (fx pz)) hx hb hr (fun tt ht hW => ⟨_, rfl, by have h9 := hk_nge L c_1 (hi := by omega) (hn := by have := hX.1; omega); unfold ca; rw [if_pos h9]; exact (hX.2 pz h9).1, ht⟩) (fun _ h => by cases h) dX6_here_24
set_option maxHeartbeats 4000000 in
set_option maxRecDepth 100000 in
theorem c6_number (l : Launch) (D : va_G) (g : hk_G) (ti : Nat) (sz : Nat) (mo : Nat) (ms : Nat) (mr : Nat) (mk : Nat) (mt : Nat) (mv : Nat) (me : Nat) (km : Nat) (ws : Nat) (L : Nat) (pz : Nat) (rx : Int32) (fx : Nat → Int32) (tx : Nat → Nat) (hX : TX tx L fx) (hp : pz < 600) : Met l yX6_number wsX6_number ({ frames := 1, cells := 0, slots := 0, locals := 25 }) (va_Pc [.ref mo] (hk_In D g ti [(mo, .inr (6, [.ref ms, .ref mr, .ref mk, .int (nI km), .ref mt, .int (nI L), .int (nI pz), .int rx, .int (nI ws), .ref mv, .ref me])), (mt, .inl (g.2.1, 200, .inl fx))] sz)) (va_Qi (S := Int32 × Nat) (fun r u => NPp tx L pz rx r u.1 u.2) (fun u => hk_Out D (va_A [(mo, .inr (6, [.ref ms, .ref mr, .ref mk, .int (nI km), .ref mt, .int (nI L), .int (nI pz), .int rx, .int (nI ws), .ref mv, .ref me])), (mt, .inl (g.2.1, 200, .inl fx))] sz) (match u with | (rs', q') => [(mo, .inr (6, [.ref ms, .ref mr, .ref mk, .int (nI km), .ref mt, .int (nI L), .int (nI q'), .int rs', .int (nI ws), .ref mv, .ref me])), (mt, .inl (g.2.1, 200, .inl fx))])) (va_A [(mo, .inr (6, [.ref ms, .ref mr, .ref mk, .int (nI km), .ref mt, .int (nI L), .int (nI pz), .int rx, .int (nI ws), .ref mv, .ref me])), (mt, .inl (g.2.1, 200, .inl fx))] sz)) 0 0 (va_A [(mo, .inr (6, [.ref ms, .ref mr, .ref mk, .int (nI km), .ref mt, .int (nI L), .int (nI pz), .int rx, .int (nI ws), .ref mv, .ref me])), (mt, .inl (g.2.1, 200, .inl fx))] sz) := by
  refine Met.ofW (cc := cX6_number) (maxL := 3) (ret := (some .int)) (by decide) rfl ?_
  intro p e s m args below meth c s₁ Bd hml hv
  obtain ⟨rfl, hsz, hP, hD0, hE⟩ := hv
  have hx := Bd.exec
  have hb := Bd.bytes
  have hr := Bd.returns
  have hts := atoms_spec (ws := wsX6_number) Bd.pre
  have hown : s.vm.findClass RX6 = some m.cls := findClass_of_methodNamed Bd.named
  have hlocks := Bd.notSynchronized
  have hK := hE.1
  have hi6 : ∀ w ∈ wsX60, w ∈ wsX6_number := fun w h => List.mem_cons_of_mem _ (List.mem_append_right _ h)
  subst hsz
  have hD := hD0.self (sz := s.heap.size)
  generalize hAe : va_A [(mo, .inr (6, [.ref ms, .ref mr, .ref mk, .int (nI km), .ref mt, .int (nI L), .int (nI pz), .int rx, .int (nI ws), .ref mv, .ref me])), (mt, .inl (g.2.1, 200, .inl fx))] s.heap.size = A at hD hE ⊢
  have hA : ∀ q : Nat, s.heap.size ≤ q → A q := fun q h => by rw [← hAe]; exact Or.inr h
  have hS : va_S A s.heap s.heap [] := va_S.rf
  have hl := lv_entry ([.ref mo]) (n := 3) (Nat.le_of_ble_eq_true rfl)
  rw [lg_entry_eq]
  generalize (lg_sl ([.ref mo]) ++ List.replicate (3 - (lg_sl ([.ref mo])).length) Slot.unset).toArray = ls at hl ⊢
  have hl : lv_has ls 3 [(0, .ref mo)] := hl
  refine lv_iconst (v := 0) hx hb dX6_number_0 (by decide) ?_
  refine lv_istore_n (lv' := [(1, .int 0), (0, .ref mo)]) hx hb dX6_number_1 rfl hl (by decide) rfl (fun ls hl => ?_)
  refine lv_iconst (v := 0) hx hb dX6_number_2 (by decide) ?_
  refine lv_istore_n (lv' := [(2, .int 0), (1, .int 0), (0, .ref mo)]) hx hb dX6_number_3 rfl hl (by decide) rfl (fun ls hl => ?_)
  have loop4 : ∀ (fuel : Nat) (i : Nat), (L - (pz + i)) < fuel → (i = 0 ∨ pz + i ≤ 200) → (i ≤ 200) → (∀ j, j < i → dg (ca tx L (pz + j)) = true) → ∀ (H : Heap) (locs : List Loc), va_P D vwCl [(mo, .inr (6, [.ref ms, .ref mr, .ref mk, .int (nI km), .ref mt, .int (nI L), .int (nI (pz + i)), .int rx, .int (nI ws), .ref mv, .ref me])), (mt, .inl (g.2.1, 200, .inl fx))] H → va_D A [(mo, .inr (6, [.ref ms, .ref mr, .ref mk, .int (nI km), .ref mt, .int (nI L), .int (nI (pz + i)), .int rx, .int (nI ws), .ref mv, .ref me])), (mt, .inl (g.2.1, 200, .inl fx))] → va_S A s.heap H locs → ∀ ls : Array Slot, lv_has ls 3 [(2, .int (nI i)), (1, .int (nV (ca tx L pz) (ca tx L (pz + 1)) i)), (0, .ref mo)] → W p l e (headSpec wsX6_number ({ frames := 1, cells := 0, slots := 0, locals := 25 })).room s m ([.ref mo] : List Value).toArray below meth c H locs 0 0 (MQ below (va_Qi (S := Int32 × Nat) (fun r u => NPp tx L pz rx r u.1 u.2) (fun u => hk_Out D A (match u with | (rs', q') => [(mo, .inr (6, [.ref ms, .ref mr, .ref mk, .int (nI km), .ref mt, .int (nI L), .int (nI q'), .int rs', .int (nI ws), .ref mv, .ref me])), (mt, .inl (g.2.1, 200, .inl fx))])) A) ([.ref mo] : List Value).toArray s 0 0 A) (F0 m 4 ls []) := by
    intro fuel
    induction fuel with
    | zero => intro i hm; exact absurd hm (Nat.not_lt_zero _)
    | succ fuel ih_4 =>
      intro i hm_4 hi hi2 hall H locs hP hD hS ls hl
      refine lv_aload_n hx hb dX6_number_4 rfl (lv_at hl 2 rfl) ?_
      refine hk_csi (va_runV (As := []) (rest := []) ⟨hx, hb, hml, hown, hts⟩ (c6_here l D g ti mo ms mr mk mt mv me km ws L (pz + i) rx fx tx hX (by omega)) (cwV 0 hts gX6_number_X6_here rfl rfl rfl (by decide +kernel) ⟨Nat.le_of_ble_eq_true rfl, Nat.le_of_ble_eq_true rfl⟩) (hk_roV hE hP hS 6 rfl rfl [0, 1] rfl rfl) rfl rfl hl.1 rfl (lv_room (Nat.le_of_ble_eq_true rfl)) dX6_number_5 ⟨Nat.zero_le _, Nat.zero_le _⟩) (fun r_1 hr_2 => ?_)
      subst hr_2
      refine lv_i2l hx hb dX6_number_8 rfl ?_
      refine lv_ldc2 (own := RX6) (v := (48)) hx hb hown (hts (.constantLong RX6 52 (48)) (by decide +kernel)) dX6_number_9 ?_
      refine lv_ldc2 (own := RX6) (v := (57)) hx hb hown (hts (.constantLong RX6 54 (57)) (by decide +kernel)) dX6_number_12 ?_
      refine hk_csi (va_runS (As := [.long ((nI (ca tx L (pz + i))).toInt64), .long (48), .long (57)]) (rest := []) ⟨hx, hb, hml, hown, hts⟩ (c6_in l D g ti ((nI (ca tx L (pz + i))).toInt64) (48) (57) ) (va_cwS 3 hts gX6_number_X6_in rfl rfl rfl (by decide +kernel) ⟨Nat.le_of_ble_eq_true rfl, Nat.le_of_ble_eq_true rfl⟩) (hk_roS hE hP hS [] rfl) rfl rfl hl.1 rfl (lv_room (Nat.le_of_ble_eq_true rfl)) dX6_number_15 ⟨Nat.zero_le _, Nat.zero_le _⟩) (fun r_3 hr_4 => ?_)
      subst hr_4
      refine hk_ti (bI (dg (ca tx L (pz + i)))) (by rw [in_dg _ (ca_lt hX _)]) ?_
      refine lv_if_eq (tgt := 59) hx hb dX6_number_18 (by decide) (fun c_5 => ?_) (fun c_5 => ?_)
      · have c_5h : bI (dg (ca tx L (pz + i))) = (0 : Int32) := c_5
        refine lv_aload_n hx hb dX6_number_59 rfl (lv_at hl 2 rfl) ?_
        refine lv_aload_n hx hb dX6_number_60 rfl (lv_at hl 2 rfl) ?_
        refine va_get (D := D) (ci := 6) (v := .int rx) (C := RX6) (T := TX6) (N := 11) hx hb hts hi6 hown hK hP 0 rfl rfl 7 (by decide) (hts (.fieldLink RX6 56 "SelfCheckingCircuitModel" "reason" "I") (by decide +kernel)) (fun _ h9 => h9) rfl dX6_number_61 ?_
        refine lv_if_ne (tgt := 83) hx hb dX6_number_64 (by decide) (fun c_6 => ?_) (fun c_6 => ?_)
        · have c_6h : ¬ rx = (0 : Int32) := c_6
          refine lv_aload_n hx hb dX6_number_83 rfl (lv_at hl 2 rfl) ?_
          refine va_get (D := D) (ci := 6) (v := .int rx) (C := RX6) (T := TX6) (N := 11) hx hb hts hi6 hown hK hP 0 rfl rfl 7 (by decide) (hts (.fieldLink RX6 56 "SelfCheckingCircuitModel" "reason" "I") (by decide +kernel)) (fun _ h9 => h9) rfl dX6_number_84 ?_
          refine va_put (D := D) (ci := 6) (v := .int rx) (ty := .int) (C := RX6) (T := TX6) (N := 11) hx hb hts hi6 tyX6 tyX6_ok nmX6 hown hK hP hD hS 0 rfl rfl 7 (by decide) (hts (.fieldLink RX6 56 "SelfCheckingCircuitModel" "reason" "I") (by decide +kernel)) (fun _ h9 => h9) rfl (by decide +kernel) rfl rfl (Nat.le_of_ble_eq_true rfl) dX6_number_87 (fun H locs hP hD hS => ?_)
          have hP : va_P D vwCl [(mo, .inr (6, [.ref ms, .ref mr, .ref mk, .int (nI km), .ref mt, .int (nI L), .int (nI (pz + i)), .int rx, .int (nI ws), .ref mv, .ref me])), (mt, .inl (g.2.1, 200, .inl fx))] H := hP
          have hD : va_D A [(mo, .inr (6, [.ref ms, .ref mr, .ref mk, .int (nI km), .ref mt, .int (nI L), .int (nI (pz + i)), .int rx, .int (nI ws), .ref mv, .ref me])), (mt, .inl (g.2.1, 200, .inl fx))] := hD
          refine lv_iload_n hx hb dX6_number_90 rfl (lv_at hl 1 rfl) ?_
          have hE := np_i hall (bI_0.mp c_5)
          have hP9 := hP.sub (ws' := [(mo, .inr (6, [.ref ms, .ref mr, .ref mk, .int (nI km), .ref mt, .int (nI L), .int (nI (pz + i)), .int rx, .int (nI ws), .ref mv, .ref me])), (mt, .inl (g.2.1, 200, .inl fx))]) [0, 1] rfl
          have hD9 := hD.sub (ws' := [(mo, .inr (6, [.ref ms, .ref mr, .ref mk, .int (nI km), .ref mt, .int (nI L), .int (nI (pz + i)), .int rx, .int (nI ws), .ref mv, .ref me])), (mt, .inl (g.2.1, 200, .inl fx))]) [0, 1] (by decide) rfl
          exact W.iret (v := (nV (ca tx L pz) (ca tx L (pz + 1)) i)) hx hb hr (fun tt ht hW => ⟨⟨_, (rx, (pz + i)), rfl, ⟨fun _ => rfl, fun q => absurd q c_6, by omega⟩, by rw [ht]; exact hP9, hD9⟩, hS.F ht⟩) hS.2.2 dX6_number_91
        · have c_6h : rx = (0 : Int32) := c_6
          refine lv_iload_n hx hb dX6_number_67 rfl (lv_at hl 0 rfl) ?_
          refine lv_i2l hx hb dX6_number_68 rfl ?_
          refine lv_lconst (v := 1) hx hb dX6_number_69 (by decide) ?_
          refine lv_ldc2 (own := RX6) (v := (2)) hx hb hown (hts (.constantLong RX6 59 (2)) (by decide +kernel)) dX6_number_70 ?_
          refine hk_csi (va_runS (As := [.long ((nI i).toInt64), .long 1, .long (2)]) (rest := [.ref mo]) ⟨hx, hb, hml, hown, hts⟩ (c6_in l D g ti ((nI i).toInt64) 1 (2) ) (va_cwS 3 hts gX6_number_X6_in rfl rfl rfl (by decide +kernel) ⟨Nat.le_of_ble_eq_true rfl, Nat.le_of_ble_eq_true rfl⟩) (hk_roS hE hP hS [] rfl) rfl rfl hl.1 rfl (lv_room (Nat.le_of_ble_eq_true rfl)) dX6_number_73 ⟨Nat.zero_le _, Nat.zero_le _⟩) (fun r_7 hr_8 => ?_)
          subst hr_8
          refine hk_ti (bI (decide (1 ≤ i ∧ i ≤ 2))) (by rw [in_12 (by omega)]) ?_
          refine lv_if_ne (tgt := 83) hx hb dX6_number_76 (by decide) (fun c_9 => ?_) (fun c_9 => ?_)
          · have c_9h : ¬ bI (decide (1 ≤ i ∧ i ≤ 2)) = (0 : Int32) := c_9
            refine lv_aload_n hx hb dX6_number_83 rfl (lv_at hl 2 rfl) ?_
            refine va_get (D := D) (ci := 6) (v := .int rx) (C := RX6) (T := TX6) (N := 11) hx hb hts hi6 hown hK hP 0 rfl rfl 7 (by decide) (hts (.fieldLink RX6 56 "SelfCheckingCircuitModel" "reason" "I") (by decide +kernel)) (fun _ h9 => h9) rfl dX6_number_84 ?_
            refine va_put (D := D) (ci := 6) (v := .int rx) (ty := .int) (C := RX6) (T := TX6) (N := 11) hx hb hts hi6 tyX6 tyX6_ok nmX6 hown hK hP hD hS 0 rfl rfl 7 (by decide) (hts (.fieldLink RX6 56 "SelfCheckingCircuitModel" "reason" "I") (by decide +kernel)) (fun _ h9 => h9) rfl (by decide +kernel) rfl rfl (Nat.le_of_ble_eq_true rfl) dX6_number_87 (fun H locs hP hD hS => ?_)
            have hP : va_P D vwCl [(mo, .inr (6, [.ref ms, .ref mr, .ref mk, .int (nI km), .ref mt, .int (nI L), .int (nI (pz + i)), .int rx, .int (nI ws), .ref mv, .ref me])), (mt, .inl (g.2.1, 200, .inl fx))] H := hP
            have hD : va_D A [(mo, .inr (6, [.ref ms, .ref mr, .ref mk, .int (nI km), .ref mt, .int (nI L), .int (nI (pz + i)), .int rx, .int (nI ws), .ref mv, .ref me])), (mt, .inl (g.2.1, 200, .inl fx))] := hD
            refine lv_iload_n hx hb dX6_number_90 rfl (lv_at hl 1 rfl) ?_
            have hE := np_i hall (bI_0.mp c_5)
            have hP9 := hP.sub (ws' := [(mo, .inr (6, [.ref ms, .ref mr, .ref mk, .int (nI km), .ref mt, .int (nI L), .int (nI (pz + i)), .int rx, .int (nI ws), .ref mv, .ref me])), (mt, .inl (g.2.1, 200, .inl fx))]) [0, 1] rfl
            have hD9 := hD.sub (ws' := [(mo, .inr (6, [.ref ms, .ref mr, .ref mk, .int (nI km), .ref mt, .int (nI L), .int (nI (pz + i)), .int rx, .int (nI ws), .ref mv, .ref me])), (mt, .inl (g.2.1, 200, .inl fx))]) [0, 1] (by decide) rfl
            exact W.iret (v := (nV (ca tx L pz) (ca tx L (pz + 1)) i)) hx hb hr (fun tt ht hW => ⟨⟨_, (rx, (pz + i)), rfl, ⟨fun _ => rfl, fun _ => ⟨fun _ => ⟨c_6, hE.2 (bd_t c_9).1 (bd_t c_9).2⟩, fun q => absurd (hE.1.mpr (bd_t c_9)) q⟩, by omega⟩, by rw [ht]; exact hP9, hD9⟩, hS.F ht⟩) hS.2.2 dX6_number_91
          · have c_9h : bI (decide (1 ≤ i ∧ i ≤ 2)) = (0 : Int32) := c_9
            refine lv_iconst (v := 2) hx hb dX6_number_79 (by decide) ?_
            refine lv_goto (tgt := 87) hx hb dX6_number_80 (by decide) ?_
            refine va_put (D := D) (ci := 6) (v := .int 2) (ty := .int) (C := RX6) (T := TX6) (N := 11) hx hb hts hi6 tyX6 tyX6_ok nmX6 hown hK hP hD hS 0 rfl rfl 7 (by decide) (hts (.fieldLink RX6 56 "SelfCheckingCircuitModel" "reason" "I") (by decide +kernel)) (fun _ h9 => h9) rfl (by decide +kernel) rfl rfl (Nat.le_of_ble_eq_true rfl) dX6_number_87 (fun H locs hP hD hS => ?_)
            have hP : va_P D vwCl [(mo, .inr (6, [.ref ms, .ref mr, .ref mk, .int (nI km), .ref mt, .int (nI L), .int (nI (pz + i)), .int 2, .int (nI ws), .ref mv, .ref me])), (mt, .inl (g.2.1, 200, .inl fx))] H := hP
            have hD : va_D A [(mo, .inr (6, [.ref ms, .ref mr, .ref mk, .int (nI km), .ref mt, .int (nI L), .int (nI (pz + i)), .int 2, .int (nI ws), .ref mv, .ref me])), (mt, .inl (g.2.1, 200, .inl fx))] := hD
            refine lv_iload_n hx hb dX6_number_90 rfl (lv_at hl 1 rfl) ?_
            have hE := np_i hall (bI_0.mp c_5)
            have hP9 := hP.sub (ws' := [(mo, .inr (6, [.ref ms, .ref mr, .ref mk, .int (nI km), .ref mt, .int (nI L), .int (nI (pz + i)), .int 2, .int (nI ws), .ref mv, .ref me])), (mt, .inl (g.2.1, 200, .inl fx))]) [0, 1] rfl
            have hD9 := hD.sub (ws' := [(mo, .inr (6, [.ref ms, .ref mr, .ref mk, .int (nI km), .ref mt, .int (nI L), .int (nI (pz + i)), .int 2, .int (nI ws), .ref mv, .ref me])), (mt, .inl (g.2.1, 200, .inl fx))]) [0, 1] (by decide) rfl
            exact W.iret (v := (nV (ca tx L pz) (ca tx L (pz + 1)) i)) hx hb hr (fun tt ht hW => ⟨⟨_, (2, (pz + i)), rfl, ⟨fun q => absurd c_6 q, fun _ => ⟨fun q => absurd (hE.1.mp q) (bd_f c_9), fun _ => rfl⟩, by omega⟩, by rw [ht]; exact hP9, hD9⟩, hS.F ht⟩) hS.2.2 dX6_number_91
      · have c_5h : ¬ bI (dg (ca tx L (pz + i))) = (0 : Int32) := c_5
        refine lv_iload_n hx hb dX6_number_21 rfl (lv_at hl 0 rfl) ?_
        refine lv_iconst (v := 2) hx hb dX6_number_22 (by decide) ?_
        refine lv_icmp_ge (tgt := 41) hx hb dX6_number_23 (by decide) (fun c_10 => ?_) (fun c_10 => ?_)
        · have c_10h : (2 : Int32) ≤ nI i := c_10
          refine lv_iload_n hx hb dX6_number_41 rfl (lv_at hl 1 rfl) ?_
          refine hk_ti (nV (ca tx L pz) (ca tx L (pz + 1)) (i + 1)) (nV_t (by omega) c_10) ?_
          refine lv_istore_n (lv' := [(1, .int (nV (ca tx L pz) (ca tx L (pz + 1)) (i + 1))), (2, .int (nI i)), (0, .ref mo)]) hx hb dX6_number_42 rfl hl (by decide) rfl (fun ls hl => ?_)
          refine lv_iinc (v := (nI (i + 1))) (lv' := [(2, .int (nI (i + 1))), (1, .int (nV (ca tx L pz) (ca tx L (pz + 1)) (i + 1))), (0, .ref mo)]) hx hb dX6_number_43 hl (k := 1) rfl (nI_1 i) (by decide) rfl (fun ls hl => ?_)
          refine lv_aload_n hx hb dX6_number_46 rfl (lv_at hl 2 rfl) ?_
          refine lv_dup hx hb dX6_number_47 rfl ?_
          refine va_get (D := D) (ci := 6) (v := .int (nI (pz + i))) (C := RX6) (T := TX6) (N := 11) hx hb hts hi6 hown hK hP 0 rfl rfl 6 (by decide) (hts (.fieldLink RX6 45 "SelfCheckingCircuitModel" "spot" "I") (by decide +kernel)) (fun _ h9 => h9) rfl dX6_number_48 ?_
          refine lv_iconst (v := 1) hx hb dX6_number_51 (by decide) ?_
          refine lv_iadd hx hb dX6_number_52 ?_
          refine hk_ti (nI ((pz + i) + 1)) (nI_1 (pz + i)) ?_
          refine va_put (D := D) (ci := 6) (v := .int (nI ((pz + i) + 1))) (ty := .int) (C := RX6) (T := TX6) (N := 11) hx hb hts hi6 tyX6 tyX6_ok nmX6 hown hK hP hD hS 0 rfl rfl 6 (by decide) (hts (.fieldLink RX6 45 "SelfCheckingCircuitModel" "spot" "I") (by decide +kernel)) (fun _ h9 => h9) rfl (by decide +kernel) rfl rfl (Nat.le_of_ble_eq_true rfl) dX6_number_53 (fun H locs hP hD hS => ?_)
          have hP : va_P D vwCl [(mo, .inr (6, [.ref ms, .ref mr, .ref mk, .int (nI km), .ref mt, .int (nI L), .int (nI ((pz + i) + 1)), .int rx, .int (nI ws), .ref mv, .ref me])), (mt, .inl (g.2.1, 200, .inl fx))] H := hP
          have hD : va_D A [(mo, .inr (6, [.ref ms, .ref mr, .ref mk, .int (nI km), .ref mt, .int (nI L), .int (nI ((pz + i) + 1)), .int rx, .int (nI ws), .ref mv, .ref me])), (mt, .inl (g.2.1, 200, .inl fx))] := hD
          refine lv_goto (tgt := 4) hx hb dX6_number_56 (by decide) ?_
          have hlt : pz + i < L := dg_L (bI_n0 c_5)
          exact ih_4 (i + 1) (by omega) (Or.inr (by have := hX.1; omega)) (by have := hX.1; omega) (fun j hj => (Nat.lt_succ_iff_lt_or_eq.mp hj).elim (hall j) (fun q => by rw [q]; exact bI_n0 c_5)) _ _ hP hD hS _ (lv_sub hl [0, 1, 2] rfl)
        · have c_10h : ¬ (2 : Int32) ≤ nI i := c_10
          refine lv_bipush (v := 10) hx hb dX6_number_26 (by decide) ?_
          refine lv_iload_n hx hb dX6_number_28 rfl (lv_at hl 1 rfl) ?_
          refine lv_imul hx hb dX6_number_29 ?_
          refine lv_aload_n hx hb dX6_number_30 rfl (lv_at hl 2 rfl) ?_
          refine hk_csi (va_runV (As := []) (rest := [.int ((10 : Int32) * (nV (ca tx L pz) (ca tx L (pz + 1)) i))]) ⟨hx, hb, hml, hown, hts⟩ (c6_here l D g ti mo ms mr mk mt mv me km ws L (pz + i) rx fx tx hX (by omega)) (cwV 0 hts gX6_number_X6_here rfl rfl rfl (by decide +kernel) ⟨Nat.le_of_ble_eq_true rfl, Nat.le_of_ble_eq_true rfl⟩) (hk_roV hE hP hS 6 rfl rfl [0, 1] rfl rfl) rfl rfl hl.1 rfl (lv_room (Nat.le_of_ble_eq_true rfl)) dX6_number_31 ⟨Nat.zero_le _, Nat.zero_le _⟩) (fun r_11 hr_12 => ?_)
          subst hr_12
          refine lv_iadd hx hb dX6_number_34 ?_
          refine lv_bipush (v := 48) hx hb dX6_number_35 (by decide) ?_
          refine lv_isub hx hb dX6_number_37 ?_
          refine lv_goto (tgt := 42) hx hb dX6_number_38 (by decide) ?_
          refine hk_ti (nV (ca tx L pz) (ca tx L (pz + 1)) (i + 1)) (nV_s (by omega) c_10 (bI_n0 c_5)) ?_
          refine lv_istore_n (lv' := [(1, .int (nV (ca tx L pz) (ca tx L (pz + 1)) (i + 1))), (2, .int (nI i)), (0, .ref mo)]) hx hb dX6_number_42 rfl hl (by decide) rfl (fun ls hl => ?_)
          refine lv_iinc (v := (nI (i + 1))) (lv' := [(2, .int (nI (i + 1))), (1, .int (nV (ca tx L pz) (ca tx L (pz + 1)) (i + 1))), (0, .ref mo)]) hx hb dX6_number_43 hl (k := 1) rfl (nI_1 i) (by decide) rfl (fun ls hl => ?_)
          refine lv_aload_n hx hb dX6_number_46 rfl (lv_at hl 2 rfl) ?_
          refine lv_dup hx hb dX6_number_47 rfl ?_
          refine va_get (D := D) (ci := 6) (v := .int (nI (pz + i))) (C := RX6) (T := TX6) (N := 11) hx hb hts hi6 hown hK hP 0 rfl rfl 6 (by decide) (hts (.fieldLink RX6 45 "SelfCheckingCircuitModel" "spot" "I") (by decide +kernel)) (fun _ h9 => h9) rfl dX6_number_48 ?_
          refine lv_iconst (v := 1) hx hb dX6_number_51 (by decide) ?_
          refine lv_iadd hx hb dX6_number_52 ?_
          refine hk_ti (nI ((pz + i) + 1)) (nI_1 (pz + i)) ?_
          refine va_put (D := D) (ci := 6) (v := .int (nI ((pz + i) + 1))) (ty := .int) (C := RX6) (T := TX6) (N := 11) hx hb hts hi6 tyX6 tyX6_ok nmX6 hown hK hP hD hS 0 rfl rfl 6 (by decide) (hts (.fieldLink RX6 45 "SelfCheckingCircuitModel" "spot" "I") (by decide +kernel)) (fun _ h9 => h9) rfl (by decide +kernel) rfl rfl (Nat.le_of_ble_eq_true rfl) dX6_number_53 (fun H locs hP hD hS => ?_)
          have hP : va_P D vwCl [(mo, .inr (6, [.ref ms, .ref mr, .ref mk, .int (nI km), .ref mt, .int (nI L), .int (nI ((pz + i) + 1)), .int rx, .int (nI ws), .ref mv, .ref me])), (mt, .inl (g.2.1, 200, .inl fx))] H := hP
          have hD : va_D A [(mo, .inr (6, [.ref ms, .ref mr, .ref mk, .int (nI km), .ref mt, .int (nI L), .int (nI ((pz + i) + 1)), .int rx, .int (nI ws), .ref mv, .ref me])), (mt, .inl (g.2.1, 200, .inl fx))] := hD
          refine lv_goto (tgt := 4) hx hb dX6_number_56 (by decide) ?_
          have hlt : pz + i < L := dg_L (bI_n0 c_5)
          exact ih_4 (i + 1) (by omega) (Or.inr (by have := hX.1; omega)) (by have := hX.1; omega) (fun j hj => (Nat.lt_succ_iff_lt_or_eq.mp hj).elim (hall j) (fun q => by rw [q]; exact bI_n0 c_5)) _ _ hP hD hS _ (lv_sub hl [0, 1, 2] rfl)
  exact loop4 _ 0 (Nat.lt_succ_self _) (Or.inl rfl) (Nat.zero_le _) (fun _ h => absurd h (Nat.not_lt_zero _)) _ _ hP hD hS _ (lv_sub hl [0, 1, 2] rfl)
set_option maxHeartbeats 4000000 in
set_option maxRecDepth 100000 in
theorem c6_sign (l : Launch) (D : va_G) (g : hk_G) (ti : Nat) (sz : Nat) (mo : Nat) (ms : Nat) (mr : Nat) (mk : Nat) (mt : Nat) (mv : Nat) (me : Nat) (km : Nat) (ws : Nat) (L : Nat) (pz : Nat) (rx : Int32) (fx : Nat → Int32) (tx : Nat → Nat) (wv : Int32) (hX : TX tx L fx) (hp : pz < 900) : Met l yX6_sign wsX6_sign ({ frames := 1, cells := 0, slots := 0, locals := 20 }) (va_Pc [.ref mo, .int wv] (hk_In D g ti [(mo, .inr (6, [.ref ms, .ref mr, .ref mk, .int (nI km), .ref mt, .int (nI L), .int (nI pz), .int rx, .int (nI ws), .ref mv, .ref me])), (mt, .inl (g.2.1, 200, .inl fx))] sz)) (va_Qv (S := Int32) (fun rs' => sg tx L pz wv rx rs') (fun u => hk_Out D (va_A [(mo, .inr (6, [.ref ms, .ref mr, .ref mk, .int (nI km), .ref mt, .int (nI L), .int (nI pz), .int rx, .int (nI ws), .ref mv, .ref me])), (mt, .inl (g.2.1, 200, .inl fx))] sz) (match u with | rs' => [(mo, .inr (6, [.ref ms, .ref mr, .ref mk, .int (nI km), .ref mt, .int (nI L), .int (nI (pz + 1)), .int rs', .int (nI ws), .ref mv, .ref me])), (mt, .inl (g.2.1, 200, .inl fx))])) (va_A [(mo, .inr (6, [.ref ms, .ref mr, .ref mk, .int (nI km), .ref mt, .int (nI L), .int (nI pz), .int rx, .int (nI ws), .ref mv, .ref me])), (mt, .inl (g.2.1, 200, .inl fx))] sz)) 0 0 (va_A [(mo, .inr (6, [.ref ms, .ref mr, .ref mk, .int (nI km), .ref mt, .int (nI L), .int (nI pz), .int rx, .int (nI ws), .ref mv, .ref me])), (mt, .inl (g.2.1, 200, .inl fx))] sz) := by
  refine Met.ofW (cc := cX6_sign) (maxL := 2) (ret := none) (by decide) rfl ?_
  intro p e s m args below meth c s₁ Bd hml hv
  obtain ⟨rfl, hsz, hP, hD0, hE⟩ := hv
  have hx := Bd.exec
  have hb := Bd.bytes
  have hr := Bd.returns
  have hts := atoms_spec (ws := wsX6_sign) Bd.pre
  have hown : s.vm.findClass RX6 = some m.cls := findClass_of_methodNamed Bd.named
  have hlocks := Bd.notSynchronized
  have hK := hE.1
  have hi6 : ∀ w ∈ wsX60, w ∈ wsX6_sign := fun w h => List.mem_cons_of_mem _ (List.mem_append_right _ h)
  subst hsz
  have hD := hD0.self (sz := s.heap.size)
  generalize hAe : va_A [(mo, .inr (6, [.ref ms, .ref mr, .ref mk, .int (nI km), .ref mt, .int (nI L), .int (nI pz), .int rx, .int (nI ws), .ref mv, .ref me])), (mt, .inl (g.2.1, 200, .inl fx))] s.heap.size = A at hD hE ⊢
  have hA : ∀ q : Nat, s.heap.size ≤ q → A q := fun q h => by rw [← hAe]; exact Or.inr h
  have hS : va_S A s.heap s.heap [] := va_S.rf
  have hl := lv_entry ([.ref mo, .int wv]) (n := 2) (Nat.le_of_ble_eq_true rfl)
  rw [lg_entry_eq]
  generalize (lg_sl ([.ref mo, .int wv]) ++ List.replicate (2 - (lg_sl ([.ref mo, .int wv])).length) Slot.unset).toArray = ls at hl ⊢
  have hl : lv_has ls 2 [(0, .ref mo), (1, .int wv)] := hl
  refine lv_aload_n hx hb dX6_sign_0 rfl (lv_at hl 0 rfl) ?_
  refine lv_aload_n hx hb dX6_sign_1 rfl (lv_at hl 0 rfl) ?_
  refine va_get (D := D) (ci := 6) (v := .int rx) (C := RX6) (T := TX6) (N := 11) hx hb hts hi6 hown hK hP 0 rfl rfl 7 (by decide) (hts (.fieldLink RX6 56 "SelfCheckingCircuitModel" "reason" "I") (by decide +kernel)) (fun _ h9 => h9) rfl dX6_sign_2 ?_
  refine lv_if_ne (tgt := 20) hx hb dX6_sign_5 (by decide) (fun c_1 => ?_) (fun c_1 => ?_)
  · have c_1h : ¬ rx = (0 : Int32) := c_1
    refine lv_aload_n hx hb dX6_sign_20 rfl (lv_at hl 0 rfl) ?_
    refine va_get (D := D) (ci := 6) (v := .int rx) (C := RX6) (T := TX6) (N := 11) hx hb hts hi6 hown hK hP 0 rfl rfl 7 (by decide) (hts (.fieldLink RX6 56 "SelfCheckingCircuitModel" "reason" "I") (by decide +kernel)) (fun _ h9 => h9) rfl dX6_sign_21 ?_
    refine va_put (D := D) (ci := 6) (v := .int rx) (ty := .int) (C := RX6) (T := TX6) (N := 11) hx hb hts hi6 tyX6 tyX6_ok nmX6 hown hK hP hD hS 0 rfl rfl 7 (by decide) (hts (.fieldLink RX6 56 "SelfCheckingCircuitModel" "reason" "I") (by decide +kernel)) (fun _ h9 => h9) rfl (by decide +kernel) rfl rfl (Nat.le_of_ble_eq_true rfl) dX6_sign_24 (fun H locs hP hD hS => ?_)
    have hP : va_P D vwCl [(mo, .inr (6, [.ref ms, .ref mr, .ref mk, .int (nI km), .ref mt, .int (nI L), .int (nI pz), .int rx, .int (nI ws), .ref mv, .ref me])), (mt, .inl (g.2.1, 200, .inl fx))] H := hP
    have hD : va_D A [(mo, .inr (6, [.ref ms, .ref mr, .ref mk, .int (nI km), .ref mt, .int (nI L), .int (nI pz), .int rx, .int (nI ws), .ref mv, .ref me])), (mt, .inl (g.2.1, 200, .inl fx))] := hD
    refine lv_aload_n hx hb dX6_sign_27 rfl (lv_at hl 0 rfl) ?_
    refine lv_dup hx hb dX6_sign_28 rfl ?_
    refine va_get (D := D) (ci := 6) (v := .int (nI pz)) (C := RX6) (T := TX6) (N := 11) hx hb hts hi6 hown hK hP 0 rfl rfl 6 (by decide) (hts (.fieldLink RX6 45 "SelfCheckingCircuitModel" "spot" "I") (by decide +kernel)) (fun _ h9 => h9) rfl dX6_sign_29 ?_
    refine lv_iconst (v := 1) hx hb dX6_sign_32 (by decide) ?_
    refine lv_iadd hx hb dX6_sign_33 ?_
    refine hk_ti (nI (pz + 1)) (nI_1 pz) ?_
    refine va_put (D := D) (ci := 6) (v := .int (nI (pz + 1))) (ty := .int) (C := RX6) (T := TX6) (N := 11) hx hb hts hi6 tyX6 tyX6_ok nmX6 hown hK hP hD hS 0 rfl rfl 6 (by decide) (hts (.fieldLink RX6 45 "SelfCheckingCircuitModel" "spot" "I") (by decide +kernel)) (fun _ h9 => h9) rfl (by decide +kernel) rfl rfl (Nat.le_of_ble_eq_true rfl) dX6_sign_34 (fun H locs hP hD hS => ?_)
    have hP : va_P D vwCl [(mo, .inr (6, [.ref ms, .ref mr, .ref mk, .int (nI km), .ref mt, .int (nI L), .int (nI (pz + 1)), .int rx, .int (nI ws), .ref mv, .ref me])), (mt, .inl (g.2.1, 200, .inl fx))] H := hP
    have hD : va_D A [(mo, .inr (6, [.ref ms, .ref mr, .ref mk, .int (nI km), .ref mt, .int (nI L), .int (nI (pz + 1)), .int rx, .int (nI ws), .ref mv, .ref me])), (mt, .inl (g.2.1, 200, .inl fx))] := hD
    have hP9 := hP.sub (ws' := [(mo, .inr (6, [.ref ms, .ref mr, .ref mk, .int (nI km), .ref mt, .int (nI L), .int (nI (pz + 1)), .int rx, .int (nI ws), .ref mv, .ref me])), (mt, .inl (g.2.1, 200, .inl fx))]) [0, 1] rfl
    have hD9 := hD.sub (ws' := [(mo, .inr (6, [.ref ms, .ref mr, .ref mk, .int (nI km), .ref mt, .int (nI L), .int (nI (pz + 1)), .int rx, .int (nI ws), .ref mv, .ref me])), (mt, .inl (g.2.1, 200, .inl fx))]) [0, 1] (by decide) rfl
    exact W.vret hx hb hr (fun tt ht hW => ⟨⟨rx, rfl, by unfold sg; rw [if_neg (fun q => c_1 q.1)], by rw [ht]; exact hP9, hD9⟩, hS.F ht⟩) hS.2.2 dX6_sign_37
  · have c_1h : rx = (0 : Int32) := c_1
    refine lv_aload_n hx hb dX6_sign_8 rfl (lv_at hl 0 rfl) ?_
    refine hk_csi (va_runV (As := []) (rest := [.ref mo]) ⟨hx, hb, hml, hown, hts⟩ (c6_here l D g ti mo ms mr mk mt mv me km ws L pz rx fx tx hX (by omega)) (cwV 0 hts gX6_sign_X6_here rfl rfl rfl (by decide +kernel) ⟨Nat.le_of_ble_eq_true rfl, Nat.le_of_ble_eq_true rfl⟩) (hk_roV hE hP hS 6 rfl rfl [0, 1] rfl rfl) rfl rfl hl.1 rfl (lv_room (Nat.le_of_ble_eq_true rfl)) dX6_sign_9 ⟨Nat.zero_le _, Nat.zero_le _⟩) (fun r_2 hr_3 => ?_)
    subst hr_3
    refine lv_iload_n hx hb dX6_sign_12 rfl (lv_at hl 1 rfl) ?_
    refine lv_icmp_eq (tgt := 20) hx hb dX6_sign_13 (by decide) (fun c_4 => ?_) (fun c_4 => ?_)
    · have c_4h : (nI (ca tx L pz)) = wv := c_4
      refine lv_aload_n hx hb dX6_sign_20 rfl (lv_at hl 0 rfl) ?_
      refine va_get (D := D) (ci := 6) (v := .int rx) (C := RX6) (T := TX6) (N := 11) hx hb hts hi6 hown hK hP 0 rfl rfl 7 (by decide) (hts (.fieldLink RX6 56 "SelfCheckingCircuitModel" "reason" "I") (by decide +kernel)) (fun _ h9 => h9) rfl dX6_sign_21 ?_
      refine va_put (D := D) (ci := 6) (v := .int rx) (ty := .int) (C := RX6) (T := TX6) (N := 11) hx hb hts hi6 tyX6 tyX6_ok nmX6 hown hK hP hD hS 0 rfl rfl 7 (by decide) (hts (.fieldLink RX6 56 "SelfCheckingCircuitModel" "reason" "I") (by decide +kernel)) (fun _ h9 => h9) rfl (by decide +kernel) rfl rfl (Nat.le_of_ble_eq_true rfl) dX6_sign_24 (fun H locs hP hD hS => ?_)
      have hP : va_P D vwCl [(mo, .inr (6, [.ref ms, .ref mr, .ref mk, .int (nI km), .ref mt, .int (nI L), .int (nI pz), .int rx, .int (nI ws), .ref mv, .ref me])), (mt, .inl (g.2.1, 200, .inl fx))] H := hP
      have hD : va_D A [(mo, .inr (6, [.ref ms, .ref mr, .ref mk, .int (nI km), .ref mt, .int (nI L), .int (nI pz), .int rx, .int (nI ws), .ref mv, .ref me])), (mt, .inl (g.2.1, 200, .inl fx))] := hD
      refine lv_aload_n hx hb dX6_sign_27 rfl (lv_at hl 0 rfl) ?_
      refine lv_dup hx hb dX6_sign_28 rfl ?_
      refine va_get (D := D) (ci := 6) (v := .int (nI pz)) (C := RX6) (T := TX6) (N := 11) hx hb hts hi6 hown hK hP 0 rfl rfl 6 (by decide) (hts (.fieldLink RX6 45 "SelfCheckingCircuitModel" "spot" "I") (by decide +kernel)) (fun _ h9 => h9) rfl dX6_sign_29 ?_
      refine lv_iconst (v := 1) hx hb dX6_sign_32 (by decide) ?_
      refine lv_iadd hx hb dX6_sign_33 ?_
      refine hk_ti (nI (pz + 1)) (nI_1 pz) ?_
      refine va_put (D := D) (ci := 6) (v := .int (nI (pz + 1))) (ty := .int) (C := RX6) (T := TX6) (N := 11) hx hb hts hi6 tyX6 tyX6_ok nmX6 hown hK hP hD hS 0 rfl rfl 6 (by decide) (hts (.fieldLink RX6 45 "SelfCheckingCircuitModel" "spot" "I") (by decide +kernel)) (fun _ h9 => h9) rfl (by decide +kernel) rfl rfl (Nat.le_of_ble_eq_true rfl) dX6_sign_34 (fun H locs hP hD hS => ?_)
      have hP : va_P D vwCl [(mo, .inr (6, [.ref ms, .ref mr, .ref mk, .int (nI km), .ref mt, .int (nI L), .int (nI (pz + 1)), .int rx, .int (nI ws), .ref mv, .ref me])), (mt, .inl (g.2.1, 200, .inl fx))] H := hP
      have hD : va_D A [(mo, .inr (6, [.ref ms, .ref mr, .ref mk, .int (nI km), .ref mt, .int (nI L), .int (nI (pz + 1)), .int rx, .int (nI ws), .ref mv, .ref me])), (mt, .inl (g.2.1, 200, .inl fx))] := hD
      have hP9 := hP.sub (ws' := [(mo, .inr (6, [.ref ms, .ref mr, .ref mk, .int (nI km), .ref mt, .int (nI L), .int (nI (pz + 1)), .int rx, .int (nI ws), .ref mv, .ref me])), (mt, .inl (g.2.1, 200, .inl fx))]) [0, 1] rfl
      have hD9 := hD.sub (ws' := [(mo, .inr (6, [.ref ms, .ref mr, .ref mk, .int (nI km), .ref mt, .int (nI L), .int (nI (pz + 1)), .int rx, .int (nI ws), .ref mv, .ref me])), (mt, .inl (g.2.1, 200, .inl fx))]) [0, 1] (by decide) rfl
      exact W.vret hx hb hr (fun tt ht hW => ⟨⟨rx, rfl, by unfold sg; rw [if_neg (fun q => q.2 c_4)], by rw [ht]; exact hP9, hD9⟩, hS.F ht⟩) hS.2.2 dX6_sign_37
    · have c_4h : ¬ (nI (ca tx L pz)) = wv := c_4
      refine lv_iconst (v := 2) hx hb dX6_sign_16 (by decide) ?_
      refine lv_goto (tgt := 24) hx hb dX6_sign_17 (by decide) ?_
      refine va_put (D := D) (ci := 6) (v := .int 2) (ty := .int) (C := RX6) (T := TX6) (N := 11) hx hb hts hi6 tyX6 tyX6_ok nmX6 hown hK hP hD hS 0 rfl rfl 7 (by decide) (hts (.fieldLink RX6 56 "SelfCheckingCircuitModel" "reason" "I") (by decide +kernel)) (fun _ h9 => h9) rfl (by decide +kernel) rfl rfl (Nat.le_of_ble_eq_true rfl) dX6_sign_24 (fun H locs hP hD hS => ?_)
      have hP : va_P D vwCl [(mo, .inr (6, [.ref ms, .ref mr, .ref mk, .int (nI km), .ref mt, .int (nI L), .int (nI pz), .int 2, .int (nI ws), .ref mv, .ref me])), (mt, .inl (g.2.1, 200, .inl fx))] H := hP
      have hD : va_D A [(mo, .inr (6, [.ref ms, .ref mr, .ref mk, .int (nI km), .ref mt, .int (nI L), .int (nI pz), .int 2, .int (nI ws), .ref mv, .ref me])), (mt, .inl (g.2.1, 200, .inl fx))] := hD
      refine lv_aload_n hx hb dX6_sign_27 rfl (lv_at hl 0 rfl) ?_
      refine lv_dup hx hb dX6_sign_28 rfl ?_
      refine va_get (D := D) (ci := 6) (v := .int (nI pz)) (C := RX6) (T := TX6) (N := 11) hx hb hts hi6 hown hK hP 0 rfl rfl 6 (by decide) (hts (.fieldLink RX6 45 "SelfCheckingCircuitModel" "spot" "I") (by decide +kernel)) (fun _ h9 => h9) rfl dX6_sign_29 ?_
      refine lv_iconst (v := 1) hx hb dX6_sign_32 (by decide) ?_
      refine lv_iadd hx hb dX6_sign_33 ?_
      refine hk_ti (nI (pz + 1)) (nI_1 pz) ?_
      refine va_put (D := D) (ci := 6) (v := .int (nI (pz + 1))) (ty := .int) (C := RX6) (T := TX6) (N := 11) hx hb hts hi6 tyX6 tyX6_ok nmX6 hown hK hP hD hS 0 rfl rfl 6 (by decide) (hts (.fieldLink RX6 45 "SelfCheckingCircuitModel" "spot" "I") (by decide +kernel)) (fun _ h9 => h9) rfl (by decide +kernel) rfl rfl (Nat.le_of_ble_eq_true rfl) dX6_sign_34 (fun H locs hP hD hS => ?_)
      have hP : va_P D vwCl [(mo, .inr (6, [.ref ms, .ref mr, .ref mk, .int (nI km), .ref mt, .int (nI L), .int (nI (pz + 1)), .int 2, .int (nI ws), .ref mv, .ref me])), (mt, .inl (g.2.1, 200, .inl fx))] H := hP
      have hD : va_D A [(mo, .inr (6, [.ref ms, .ref mr, .ref mk, .int (nI km), .ref mt, .int (nI L), .int (nI (pz + 1)), .int 2, .int (nI ws), .ref mv, .ref me])), (mt, .inl (g.2.1, 200, .inl fx))] := hD
      have hP9 := hP.sub (ws' := [(mo, .inr (6, [.ref ms, .ref mr, .ref mk, .int (nI km), .ref mt, .int (nI L), .int (nI (pz + 1)), .int 2, .int (nI ws), .ref mv, .ref me])), (mt, .inl (g.2.1, 200, .inl fx))]) [0, 1] rfl
      have hD9 := hD.sub (ws' := [(mo, .inr (6, [.ref ms, .ref mr, .ref mk, .int (nI km), .ref mt, .int (nI L), .int (nI (pz + 1)), .int 2, .int (nI ws), .ref mv, .ref me])), (mt, .inl (g.2.1, 200, .inl fx))]) [0, 1] (by decide) rfl
      exact W.vret hx hb hr (fun tt ht hW => ⟨⟨2, rfl, by unfold sg; rw [if_pos ⟨c_1, c_4⟩], by rw [ht]; exact hP9, hD9⟩, hS.F ht⟩) hS.2.2 dX6_sign_37
set_option maxHeartbeats 4000000 in
set_option maxRecDepth 100000 in
theorem c6_checked (l : Launch) (D : va_G) (g : hk_G) (ti : Nat) (sz : Nat) (mo : Nat) (ms : Nat) (mr : Nat) (mk : Nat) (mt : Nat) (mv : Nat) (me : Nat) (km : Nat) (ws : Nat) (L : Nat) (pz : Nat) (rx : Int32) (b1 : Int32) (b2 : Int32)  : Met l yX6_checked wsX6_checked ({ frames := 0, cells := 0, slots := 0, locals := 0 }) (va_Pc [.ref mo, .int b1, .int b2] (hk_In D g ti [(mo, .inr (6, [.ref ms, .ref mr, .ref mk, .int (nI km), .ref mt, .int (nI L), .int (nI pz), .int rx, .int (nI ws), .ref mv, .ref me]))] sz)) (va_Qv (S := Int32) (fun rs' => ckd rx b1 b2 rs') (fun u => hk_Out D (va_A [(mo, .inr (6, [.ref ms, .ref mr, .ref mk, .int (nI km), .ref mt, .int (nI L), .int (nI pz), .int rx, .int (nI ws), .ref mv, .ref me]))] sz) (match u with | rs' => [(mo, .inr (6, [.ref ms, .ref mr, .ref mk, .int (nI km), .ref mt, .int (nI L), .int (nI pz), .int rs', .int (nI ws), .ref mv, .ref me]))])) (va_A [(mo, .inr (6, [.ref ms, .ref mr, .ref mk, .int (nI km), .ref mt, .int (nI L), .int (nI pz), .int rx, .int (nI ws), .ref mv, .ref me]))] sz)) 0 0 (va_A [(mo, .inr (6, [.ref ms, .ref mr, .ref mk, .int (nI km), .ref mt, .int (nI L), .int (nI pz), .int rx, .int (nI ws), .ref mv, .ref me]))] sz) := by
  refine Met.ofW (cc := cX6_checked) (maxL := 3) (ret := none) (by decide) rfl ?_
  intro p e s m args below meth c s₁ Bd hml hv
  obtain ⟨rfl, hsz, hP, hD0, hE⟩ := hv
  have hx := Bd.exec
  have hb := Bd.bytes
  have hr := Bd.returns
  have hts := atoms_spec (ws := wsX6_checked) Bd.pre
  have hown : s.vm.findClass RX6 = some m.cls := findClass_of_methodNamed Bd.named
  have hlocks := Bd.notSynchronized
  have hK := hE.1
  have hi6 : ∀ w ∈ wsX60, w ∈ wsX6_checked := fun w h => List.mem_cons_of_mem _ (List.mem_append_right _ h)
  subst hsz
  have hD := hD0.self (sz := s.heap.size)
  generalize hAe : va_A [(mo, .inr (6, [.ref ms, .ref mr, .ref mk, .int (nI km), .ref mt, .int (nI L), .int (nI pz), .int rx, .int (nI ws), .ref mv, .ref me]))] s.heap.size = A at hD hE ⊢
  have hA : ∀ q : Nat, s.heap.size ≤ q → A q := fun q h => by rw [← hAe]; exact Or.inr h
  have hS : va_S A s.heap s.heap [] := va_S.rf
  have hl := lv_entry ([.ref mo, .int b1, .int b2]) (n := 3) (Nat.le_of_ble_eq_true rfl)
  rw [lg_entry_eq]
  generalize (lg_sl ([.ref mo, .int b1, .int b2]) ++ List.replicate (3 - (lg_sl ([.ref mo, .int b1, .int b2])).length) Slot.unset).toArray = ls at hl ⊢
  have hl : lv_has ls 3 [(0, .ref mo), (1, .int b1), (2, .int b2)] := hl
  refine lv_aload_n hx hb dX6_checked_0 rfl (lv_at hl 0 rfl) ?_
  refine lv_aload_n hx hb dX6_checked_1 rfl (lv_at hl 0 rfl) ?_
  refine va_get (D := D) (ci := 6) (v := .int rx) (C := RX6) (T := TX6) (N := 11) hx hb hts hi6 hown hK hP 0 rfl rfl 7 (by decide) (hts (.fieldLink RX6 56 "SelfCheckingCircuitModel" "reason" "I") (by decide +kernel)) (fun _ h9 => h9) rfl dX6_checked_2 ?_
  refine lv_if_eq (tgt := 15) hx hb dX6_checked_5 (by decide) (fun c_1 => ?_) (fun c_1 => ?_)
  · have c_1h : rx = (0 : Int32) := c_1
    refine lv_iload_n hx hb dX6_checked_15 rfl (lv_at hl 1 rfl) ?_
    refine lv_if_ne (tgt := 23) hx hb dX6_checked_16 (by decide) (fun c_2 => ?_) (fun c_2 => ?_)
    · have c_2h : ¬ b1 = (0 : Int32) := c_2
      refine lv_iload_n hx hb dX6_checked_23 rfl (lv_at hl 2 rfl) ?_
      refine lv_if_ne (tgt := 31) hx hb dX6_checked_24 (by decide) (fun c_3 => ?_) (fun c_3 => ?_)
      · have c_3h : ¬ b2 = (0 : Int32) := c_3
        refine lv_iconst (v := 0) hx hb dX6_checked_31 (by decide) ?_
        refine va_put (D := D) (ci := 6) (v := .int 0) (ty := .int) (C := RX6) (T := TX6) (N := 11) hx hb hts hi6 tyX6 tyX6_ok nmX6 hown hK hP hD hS 0 rfl rfl 7 (by decide) (hts (.fieldLink RX6 56 "SelfCheckingCircuitModel" "reason" "I") (by decide +kernel)) (fun _ h9 => h9) rfl (by decide +kernel) rfl rfl (Nat.le_of_ble_eq_true rfl) dX6_checked_32 (fun H locs hP hD hS => ?_)
        have hP : va_P D vwCl [(mo, .inr (6, [.ref ms, .ref mr, .ref mk, .int (nI km), .ref mt, .int (nI L), .int (nI pz), .int 0, .int (nI ws), .ref mv, .ref me]))] H := hP
        have hD : va_D A [(mo, .inr (6, [.ref ms, .ref mr, .ref mk, .int (nI km), .ref mt, .int (nI L), .int (nI pz), .int 0, .int (nI ws), .ref mv, .ref me]))] := hD
        have hP9 := hP.sub (ws' := [(mo, .inr (6, [.ref ms, .ref mr, .ref mk, .int (nI km), .ref mt, .int (nI L), .int (nI pz), .int 0, .int (nI ws), .ref mv, .ref me]))]) [0] rfl
        have hD9 := hD.sub (ws' := [(mo, .inr (6, [.ref ms, .ref mr, .ref mk, .int (nI km), .ref mt, .int (nI L), .int (nI pz), .int 0, .int (nI ws), .ref mv, .ref me]))]) [0] (by decide) rfl
        exact W.vret hx hb hr (fun tt ht hW => ⟨⟨0, rfl, by unfold ckd; rw [if_pos c_1, if_neg c_2, if_neg c_3], by rw [ht]; exact hP9, hD9⟩, hS.F ht⟩) hS.2.2 dX6_checked_35
      · have c_3h : b2 = (0 : Int32) := c_3
        refine lv_iconst (v := 4) hx hb dX6_checked_27 (by decide) ?_
        refine lv_goto (tgt := 32) hx hb dX6_checked_28 (by decide) ?_
        refine va_put (D := D) (ci := 6) (v := .int 4) (ty := .int) (C := RX6) (T := TX6) (N := 11) hx hb hts hi6 tyX6 tyX6_ok nmX6 hown hK hP hD hS 0 rfl rfl 7 (by decide) (hts (.fieldLink RX6 56 "SelfCheckingCircuitModel" "reason" "I") (by decide +kernel)) (fun _ h9 => h9) rfl (by decide +kernel) rfl rfl (Nat.le_of_ble_eq_true rfl) dX6_checked_32 (fun H locs hP hD hS => ?_)
        have hP : va_P D vwCl [(mo, .inr (6, [.ref ms, .ref mr, .ref mk, .int (nI km), .ref mt, .int (nI L), .int (nI pz), .int 4, .int (nI ws), .ref mv, .ref me]))] H := hP
        have hD : va_D A [(mo, .inr (6, [.ref ms, .ref mr, .ref mk, .int (nI km), .ref mt, .int (nI L), .int (nI pz), .int 4, .int (nI ws), .ref mv, .ref me]))] := hD
        have hP9 := hP.sub (ws' := [(mo, .inr (6, [.ref ms, .ref mr, .ref mk, .int (nI km), .ref mt, .int (nI L), .int (nI pz), .int 4, .int (nI ws), .ref mv, .ref me]))]) [0] rfl
        have hD9 := hD.sub (ws' := [(mo, .inr (6, [.ref ms, .ref mr, .ref mk, .int (nI km), .ref mt, .int (nI L), .int (nI pz), .int 4, .int (nI ws), .ref mv, .ref me]))]) [0] (by decide) rfl
        exact W.vret hx hb hr (fun tt ht hW => ⟨⟨4, rfl, by unfold ckd; rw [if_pos c_1, if_neg c_2, if_pos c_3], by rw [ht]; exact hP9, hD9⟩, hS.F ht⟩) hS.2.2 dX6_checked_35
    · have c_2h : b1 = (0 : Int32) := c_2
      refine lv_iconst (v := 3) hx hb dX6_checked_19 (by decide) ?_
      refine lv_goto (tgt := 32) hx hb dX6_checked_20 (by decide) ?_
      refine va_put (D := D) (ci := 6) (v := .int 3) (ty := .int) (C := RX6) (T := TX6) (N := 11) hx hb hts hi6 tyX6 tyX6_ok nmX6 hown hK hP hD hS 0 rfl rfl 7 (by decide) (hts (.fieldLink RX6 56 "SelfCheckingCircuitModel" "reason" "I") (by decide +kernel)) (fun _ h9 => h9) rfl (by decide +kernel) rfl rfl (Nat.le_of_ble_eq_true rfl) dX6_checked_32 (fun H locs hP hD hS => ?_)
      have hP : va_P D vwCl [(mo, .inr (6, [.ref ms, .ref mr, .ref mk, .int (nI km), .ref mt, .int (nI L), .int (nI pz), .int 3, .int (nI ws), .ref mv, .ref me]))] H := hP
      have hD : va_D A [(mo, .inr (6, [.ref ms, .ref mr, .ref mk, .int (nI km), .ref mt, .int (nI L), .int (nI pz), .int 3, .int (nI ws), .ref mv, .ref me]))] := hD
      have hP9 := hP.sub (ws' := [(mo, .inr (6, [.ref ms, .ref mr, .ref mk, .int (nI km), .ref mt, .int (nI L), .int (nI pz), .int 3, .int (nI ws), .ref mv, .ref me]))]) [0] rfl
      have hD9 := hD.sub (ws' := [(mo, .inr (6, [.ref ms, .ref mr, .ref mk, .int (nI km), .ref mt, .int (nI L), .int (nI pz), .int 3, .int (nI ws), .ref mv, .ref me]))]) [0] (by decide) rfl
      exact W.vret hx hb hr (fun tt ht hW => ⟨⟨3, rfl, by unfold ckd; rw [if_pos c_1, if_pos c_2], by rw [ht]; exact hP9, hD9⟩, hS.F ht⟩) hS.2.2 dX6_checked_35
  · have c_1h : ¬ rx = (0 : Int32) := c_1
    refine lv_aload_n hx hb dX6_checked_8 rfl (lv_at hl 0 rfl) ?_
    refine va_get (D := D) (ci := 6) (v := .int rx) (C := RX6) (T := TX6) (N := 11) hx hb hts hi6 hown hK hP 0 rfl rfl 7 (by decide) (hts (.fieldLink RX6 56 "SelfCheckingCircuitModel" "reason" "I") (by decide +kernel)) (fun _ h9 => h9) rfl dX6_checked_9 ?_
    refine lv_goto (tgt := 32) hx hb dX6_checked_12 (by decide) ?_
    refine va_put (D := D) (ci := 6) (v := .int rx) (ty := .int) (C := RX6) (T := TX6) (N := 11) hx hb hts hi6 tyX6 tyX6_ok nmX6 hown hK hP hD hS 0 rfl rfl 7 (by decide) (hts (.fieldLink RX6 56 "SelfCheckingCircuitModel" "reason" "I") (by decide +kernel)) (fun _ h9 => h9) rfl (by decide +kernel) rfl rfl (Nat.le_of_ble_eq_true rfl) dX6_checked_32 (fun H locs hP hD hS => ?_)
    have hP : va_P D vwCl [(mo, .inr (6, [.ref ms, .ref mr, .ref mk, .int (nI km), .ref mt, .int (nI L), .int (nI pz), .int rx, .int (nI ws), .ref mv, .ref me]))] H := hP
    have hD : va_D A [(mo, .inr (6, [.ref ms, .ref mr, .ref mk, .int (nI km), .ref mt, .int (nI L), .int (nI pz), .int rx, .int (nI ws), .ref mv, .ref me]))] := hD
    have hP9 := hP.sub (ws' := [(mo, .inr (6, [.ref ms, .ref mr, .ref mk, .int (nI km), .ref mt, .int (nI L), .int (nI pz), .int rx, .int (nI ws), .ref mv, .ref me]))]) [0] rfl
    have hD9 := hD.sub (ws' := [(mo, .inr (6, [.ref ms, .ref mr, .ref mk, .int (nI km), .ref mt, .int (nI L), .int (nI pz), .int rx, .int (nI ws), .ref mv, .ref me]))]) [0] (by decide) rfl
    exact W.vret hx hb hr (fun tt ht hW => ⟨⟨rx, rfl, by unfold ckd; rw [if_neg c_1], by rw [ht]; exact hP9, hD9⟩, hS.F ht⟩) hS.2.2 dX6_checked_35
set_option maxHeartbeats 4000000 in
set_option maxRecDepth 100000 in
theorem c6_isNodeOf (l : Launch) (D : va_G) (g : hk_G) (ti : Nat) (mo : Nat) (ms : Nat) (mr : Nat) (mk : Nat) (mt : Nat) (mv : Nat) (me : Nat) (km : Nat) (ws : Nat) (L : Nat) (pz : Nat) (rx : Int32) (fr : Nat → Int32) (N : Nat) (v : Int32) (hN : fr 0 + fr 1 = nI N) : Met l yX6_isNodeOf wsX6_isNodeOf ({ frames := 1, cells := 0, slots := 0, locals := 20 }) (va_Pc [.ref mo, .int v] (hk_Ro D g ti [(mo, .inr (6, [.ref ms, .ref mr, .ref mk, .int (nI km), .ref mt, .int (nI L), .int (nI pz), .int rx, .int (nI ws), .ref mv, .ref me])), (mr, .inl (g.2.1, 147, .inl fr))])) (vp_Si (fun r => r = if nI N ≤ v then 0 else 1)) 0 0 (fun _ => False) := by
  refine Met.ofW (cc := cX6_isNodeOf) (maxL := 2) (ret := (some .boolean)) (by decide) rfl ?_
  intro p e s m args below meth c s₁ Bd hml hv
  obtain ⟨rfl, hP, hE⟩ := hv
  have hx := Bd.exec
  have hb := Bd.bytes
  have hr := Bd.returns
  have hts := atoms_spec (ws := wsX6_isNodeOf) Bd.pre
  have hown : s.vm.findClass RX6 = some m.cls := findClass_of_methodNamed Bd.named
  have hlocks := Bd.notSynchronized
  have hK := hE.1
  have hi6 : ∀ w ∈ wsX60, w ∈ wsX6_isNodeOf := fun w h => List.mem_cons_of_mem _ (List.mem_append_right _ h)
  have hS : va_S (fun _ => False) s.heap s.heap [] := va_S.rf
  have hl := lv_entry ([.ref mo, .int v]) (n := 2) (Nat.le_of_ble_eq_true rfl)
  rw [lg_entry_eq]
  generalize (lg_sl ([.ref mo, .int v]) ++ List.replicate (2 - (lg_sl ([.ref mo, .int v])).length) Slot.unset).toArray = ls at hl ⊢
  have hl : lv_has ls 2 [(0, .ref mo), (1, .int v)] := hl
  refine lv_iload_n hx hb dX6_isNodeOf_0 rfl (lv_at hl 1 rfl) ?_
  refine lv_aload_n hx hb dX6_isNodeOf_1 rfl (lv_at hl 0 rfl) ?_
  refine va_get (D := D) (ci := 6) (v := .ref mr) (C := RX6) (T := TX6) (N := 11) hx hb hts hi6 hown hK hP 0 rfl rfl 1 (by decide) (hts (.fieldLink RX6 13 "SelfCheckingCircuitModel" "read" "[I") (by decide +kernel)) (fun _ h9 => h9) rfl dX6_isNodeOf_2 ?_
  refine hk_csi (va_runS (As := [.ref mr]) (rest := [.int v]) ⟨hx, hb, hml, hown, hts⟩ (c6_nodesOf l D g ti mr fr ) (va_cwS 1 hts gX6_isNodeOf_X6_nodesOf rfl rfl rfl (by decide +kernel) ⟨Nat.le_of_ble_eq_true rfl, Nat.le_of_ble_eq_true rfl⟩) (hk_roS hE hP hS [1] rfl) rfl rfl hl.1 rfl (lv_room (Nat.le_of_ble_eq_true rfl)) dX6_isNodeOf_5 ⟨Nat.zero_le _, Nat.zero_le _⟩) (fun r_1 hr_2 => ?_)
  subst hr_2
  refine hk_ti (nI N) (hN) ?_
  refine lv_icmp_ge (tgt := 15) hx hb dX6_isNodeOf_8 (by decide) (fun c_3 => ?_) (fun c_3 => ?_)
  · have c_3h : nI N ≤ v := c_3
    refine lv_iconst (v := 0) hx hb dX6_isNodeOf_15 (by decide) ?_
    exact W.zret (v := 0) hx hb hr (hk_z0) (fun tt ht hW => ⟨_, rfl, by rw [if_pos c_3], ht⟩) (fun _ h => by cases h) dX6_isNodeOf_16
  · have c_3h : ¬ nI N ≤ v := c_3
    refine lv_iconst (v := 1) hx hb dX6_isNodeOf_11 (by decide) ?_
    refine lv_goto (tgt := 16) hx hb dX6_isNodeOf_12 (by decide) ?_
    exact W.zret (v := 1) hx hb hr (hk_z1) (fun tt ht hW => ⟨_, rfl, by rw [if_neg c_3], ht⟩) (fun _ h => by cases h) dX6_isNodeOf_16
