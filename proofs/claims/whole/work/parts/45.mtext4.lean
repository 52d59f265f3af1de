set_option maxHeartbeats 4000000 in
set_option maxRecDepth 100000 in
theorem c6_readAll (l : Launch) (D : va_G) (g : hk_G) (ti : Nat) (sz : Nat) (mo : Nat) (ms : Nat) (mr : Nat) (mk : Nat) (mt : Nat) (mv : Nat) (me : Nat) (km : Nat) (L : Nat) (spx : Int32) (rx : Int32) (wx : Int32) (fx : Nat → Int32) (tx : Nat → Nat) (fr : Nat → Int32) (hX : TX tx L fx) : Met l yX6_readAll wsX6_readAll ({ frames := 4, cells := 0, slots := 0, locals := 95 }) (va_Pc [.ref mo] (hk_In D g ti [(mo, .inr (6, [.ref ms, .ref mr, .ref mk, .int (nI km), .ref mt, .int (nI L), .int spx, .int rx, .int wx, .ref mv, .ref me])), (mt, .inl (g.2.1, 200, .inl fx)), (mr, .inl (g.2.1, 147, .inl fr))] sz)) (va_Qi (S := Int32 × Int32 × (Nat → Int32) × Nat) (fun r u => RAp (pA tx L 201 0 Vz) L r u.1 u.2.2.1 u.2.2.2) (fun u => hk_Out D (va_A [(mo, .inr (6, [.ref ms, .ref mr, .ref mk, .int (nI km), .ref mt, .int (nI L), .int spx, .int rx, .int wx, .ref mv, .ref me])), (mt, .inl (g.2.1, 200, .inl fx)), (mr, .inl (g.2.1, 147, .inl fr))] sz) (match u with | (rs', sp', f', w') => [(mo, .inr (6, [.ref ms, .ref mr, .ref mk, .int (nI km), .ref mt, .int (nI L), .int sp', .int rs', .int (nI w'), .ref mv, .ref me])), (mt, .inl (g.2.1, 200, .inl fx)), (mr, .inl (g.2.1, 147, .inl f'))])) (va_A [(mo, .inr (6, [.ref ms, .ref mr, .ref mk, .int (nI km), .ref mt, .int (nI L), .int spx, .int rx, .int wx, .ref mv, .ref me])), (mt, .inl (g.2.1, 200, .inl fx)), (mr, .inl (g.2.1, 147, .inl fr))] sz)) 0 0 (va_A [(mo, .inr (6, [.ref ms, .ref mr, .ref mk, .int (nI km), .ref mt, .int (nI L), .int spx, .int rx, .int wx, .ref mv, .ref me])), (mt, .inl (g.2.1, 200, .inl fx)), (mr, .inl (g.2.1, 147, .inl fr))] sz) := by
  refine Met.ofW (cc := cX6_readAll) (maxL := 2) (ret := (some .int)) (by decide) rfl ?_
  intro p e s m args below meth c s₁ Bd hml hv
  obtain ⟨rfl, hsz, hP, hD0, hE⟩ := hv
  have hx := Bd.exec
  have hb := Bd.bytes
  have hr := Bd.returns
  have hts := atoms_spec (ws := wsX6_readAll) Bd.pre
  have hown : s.vm.findClass RX6 = some m.cls := findClass_of_methodNamed Bd.named
  have hlocks := Bd.notSynchronized
  have hK := hE.1
  have hi6 : ∀ w ∈ wsX60, w ∈ wsX6_readAll := fun w h => List.mem_cons_of_mem _ (List.mem_append_right _ h)
  subst hsz
  have hD := hD0.self (sz := s.heap.size)
  generalize hAe : va_A [(mo, .inr (6, [.ref ms, .ref mr, .ref mk, .int (nI km), .ref mt, .int (nI L), .int spx, .int rx, .int wx, .ref mv, .ref me])), (mt, .inl (g.2.1, 200, .inl fx)), (mr, .inl (g.2.1, 147, .inl fr))] s.heap.size = A at hD hE ⊢
  have hA : ∀ q : Nat, s.heap.size ≤ q → A q := fun q h => by rw [← hAe]; exact Or.inr h
  have hS : va_S A s.heap s.heap [] := va_S.rf
  have hl := lv_entry ([.ref mo]) (n := 2) (Nat.le_of_ble_eq_true rfl)
  rw [lg_entry_eq]
  generalize (lg_sl ([.ref mo]) ++ List.replicate (2 - (lg_sl ([.ref mo])).length) Slot.unset).toArray = ls at hl ⊢
  have hl : lv_has ls 2 [(0, .ref mo)] := hl
  refine lv_iconst (v := 0) hx hb dX6_readAll_0 (by decide) ?_
  refine lv_istore_n (lv' := [(1, .int 0), (0, .ref mo)]) hx hb dX6_readAll_1 rfl hl (by decide) rfl (fun ls hl => ?_)
  have loop2 : ∀ (fuel : Nat) (i : Nat) (fz : Nat → Int32), (147 - i) < fuel → (i ≤ 147) → (∀ j, j < i → fz j = 0) → ∀ (H : Heap) (locs : List Loc), va_P D vwCl [(mo, .inr (6, [.ref ms, .ref mr, .ref mk, .int (nI km), .ref mt, .int (nI L), .int spx, .int rx, .int wx, .ref mv, .ref me])), (mt, .inl (g.2.1, 200, .inl fx)), (mr, .inl (g.2.1, 147, .inl fz))] H → va_D A [(mo, .inr (6, [.ref ms, .ref mr, .ref mk, .int (nI km), .ref mt, .int (nI L), .int spx, .int rx, .int wx, .ref mv, .ref me])), (mt, .inl (g.2.1, 200, .inl fx)), (mr, .inl (g.2.1, 147, .inl fz))] → va_S A s.heap H locs → ∀ ls : Array Slot, lv_has ls 2 [(1, .int (nI i)), (0, .ref mo)] → W p l e (headSpec wsX6_readAll ({ frames := 4, cells := 0, slots := 0, locals := 95 })).room s m ([.ref mo] : List Value).toArray below meth c H locs 0 0 (MQ below (va_Qi (S := Int32 × Int32 × (Nat → Int32) × Nat) (fun r u => RAp (pA tx L 201 0 Vz) L r u.1 u.2.2.1 u.2.2.2) (fun u => hk_Out D A (match u with | (rs', sp', f', w') => [(mo, .inr (6, [.ref ms, .ref mr, .ref mk, .int (nI km), .ref mt, .int (nI L), .int sp', .int rs', .int (nI w'), .ref mv, .ref me])), (mt, .inl (g.2.1, 200, .inl fx)), (mr, .inl (g.2.1, 147, .inl f'))])) A) ([.ref mo] : List Value).toArray s 0 0 A) (F0 m 2 ls []) := by
    intro fuel
    induction fuel with
    | zero => intro i fz hm; exact absurd hm (Nat.not_lt_zero _)
    | succ fuel ih_2 =>
      intro i fz hm_2 hi hz0 H locs hP hD hS ls hl
      refine lv_iload_n hx hb dX6_readAll_2 rfl (lv_at hl 0 rfl) ?_
      refine lv_sipush (v := 147) hx hb dX6_readAll_3 (by decide) ?_
      refine lv_icmp_ge (tgt := 22) hx hb dX6_readAll_6 (by decide) (fun c_1 => ?_) (fun c_1 => ?_)
      · have c_1h : (147 : Int32) ≤ nI i := c_1
        refine lv_aload_n hx hb dX6_readAll_22 rfl (lv_at hl 1 rfl) ?_
        refine lv_iconst (v := 0) hx hb dX6_readAll_23 (by decide) ?_
        refine va_put (D := D) (ci := 6) (v := .int 0) (ty := .int) (C := RX6) (T := TX6) (N := 11) hx hb hts hi6 tyX6 tyX6_ok nmX6 hown hK hP hD hS 0 rfl rfl 6 (by decide) (hts (.fieldLink RX6 45 "SelfCheckingCircuitModel" "spot" "I") (by decide +kernel)) (fun _ h9 => h9) rfl (by decide +kernel) rfl rfl (Nat.le_of_ble_eq_true rfl) dX6_readAll_24 (fun H locs hP hD hS => ?_)
        have hP : va_P D vwCl [(mo, .inr (6, [.ref ms, .ref mr, .ref mk, .int (nI km), .ref mt, .int (nI L), .int 0, .int rx, .int wx, .ref mv, .ref me])), (mt, .inl (g.2.1, 200, .inl fx)), (mr, .inl (g.2.1, 147, .inl fz))] H := hP
        have hD : va_D A [(mo, .inr (6, [.ref ms, .ref mr, .ref mk, .int (nI km), .ref mt, .int (nI L), .int 0, .int rx, .int wx, .ref mv, .ref me])), (mt, .inl (g.2.1, 200, .inl fx)), (mr, .inl (g.2.1, 147, .inl fz))] := hD
        refine lv_aload_n hx hb dX6_readAll_27 rfl (lv_at hl 1 rfl) ?_
        refine lv_iconst (v := 0) hx hb dX6_readAll_28 (by decide) ?_
        refine va_put (D := D) (ci := 6) (v := .int 0) (ty := .int) (C := RX6) (T := TX6) (N := 11) hx hb hts hi6 tyX6 tyX6_ok nmX6 hown hK hP hD hS 0 rfl rfl 7 (by decide) (hts (.fieldLink RX6 56 "SelfCheckingCircuitModel" "reason" "I") (by decide +kernel)) (fun _ h9 => h9) rfl (by decide +kernel) rfl rfl (Nat.le_of_ble_eq_true rfl) dX6_readAll_29 (fun H locs hP hD hS => ?_)
        have hP : va_P D vwCl [(mo, .inr (6, [.ref ms, .ref mr, .ref mk, .int (nI km), .ref mt, .int (nI L), .int 0, .int 0, .int wx, .ref mv, .ref me])), (mt, .inl (g.2.1, 200, .inl fx)), (mr, .inl (g.2.1, 147, .inl fz))] H := hP
        have hD : va_D A [(mo, .inr (6, [.ref ms, .ref mr, .ref mk, .int (nI km), .ref mt, .int (nI L), .int 0, .int 0, .int wx, .ref mv, .ref me])), (mt, .inl (g.2.1, 200, .inl fx)), (mr, .inl (g.2.1, 147, .inl fz))] := hD
        refine lv_aload_n hx hb dX6_readAll_32 rfl (lv_at hl 1 rfl) ?_
        refine lv_iconst (v := 0) hx hb dX6_readAll_33 (by decide) ?_
        refine va_put (D := D) (ci := 6) (v := .int 0) (ty := .int) (C := RX6) (T := TX6) (N := 11) hx hb hts hi6 tyX6 tyX6_ok nmX6 hown hK hP hD hS 0 rfl rfl 8 (by decide) (hts (.fieldLink RX6 85 "SelfCheckingCircuitModel" "words" "I") (by decide +kernel)) (fun _ h9 => h9) rfl (by decide +kernel) rfl rfl (Nat.le_of_ble_eq_true rfl) dX6_readAll_34 (fun H locs hP hD hS => ?_)
        have hP : va_P D vwCl [(mo, .inr (6, [.ref ms, .ref mr, .ref mk, .int (nI km), .ref mt, .int (nI L), .int 0, .int 0, .int 0, .ref mv, .ref me])), (mt, .inl (g.2.1, 200, .inl fx)), (mr, .inl (g.2.1, 147, .inl fz))] H := hP
        have hD : va_D A [(mo, .inr (6, [.ref ms, .ref mr, .ref mk, .int (nI km), .ref mt, .int (nI L), .int 0, .int 0, .int 0, .ref mv, .ref me])), (mt, .inl (g.2.1, 200, .inl fx)), (mr, .inl (g.2.1, 147, .inl fz))] := hD
        have loop37 : ∀ (fuel : Nat) (f9 : Nat) (pz : Nat) (fr2 : Nat → Int32) (ws2 : Nat) (V2 : VT), (L - pz) < fuel → (L < pz + f9) → (pz ≤ L) → (VK V2) → (MRV V2 fr2) → (pz = 0 → V2.1 = 0 ∧ V2.2.1 = 0 ∧ V2.2.2.1 = 0 ∧ nmV V2 = 0 ∧ ws2 = 0) → (ws2 = 0 ↔ nmV V2 = 0) → (¬ pz = 0 → 1 ≤ V2.1) → (ws2 ≤ pz) → (pA tx L f9 pz V2 = pA tx L 201 0 Vz) → ∀ (H : Heap) (locs : List Loc), va_P D vwCl [(mo, .inr (6, [.ref ms, .ref mr, .ref mk, .int (nI km), .ref mt, .int (nI L), .int (nI pz), .int 0, .int (nI ws2), .ref mv, .ref me])), (mt, .inl (g.2.1, 200, .inl fx)), (mr, .inl (g.2.1, 147, .inl fr2))] H → va_D A [(mo, .inr (6, [.ref ms, .ref mr, .ref mk, .int (nI km), .ref mt, .int (nI L), .int (nI pz), .int 0, .int (nI ws2), .ref mv, .ref me])), (mt, .inl (g.2.1, 200, .inl fx)), (mr, .inl (g.2.1, 147, .inl fr2))] → va_S A s.heap H locs → ∀ ls : Array Slot, lv_has ls 2 [(0, .ref mo)] → W p l e (headSpec wsX6_readAll ({ frames := 4, cells := 0, slots := 0, locals := 95 })).room s m ([.ref mo] : List Value).toArray below meth c H locs 0 0 (MQ below (va_Qi (S := Int32 × Int32 × (Nat → Int32) × Nat) (fun r u => RAp (pA tx L 201 0 Vz) L r u.1 u.2.2.1 u.2.2.2) (fun u => hk_Out D A (match u with | (rs', sp', f', w') => [(mo, .inr (6, [.ref ms, .ref mr, .ref mk, .int (nI km), .ref mt, .int (nI L), .int sp', .int rs', .int (nI w'), .ref mv, .ref me])), (mt, .inl (g.2.1, 200, .inl fx)), (mr, .inl (g.2.1, 147, .inl f'))])) A) ([.ref mo] : List Value).toArray s 0 0 A) (F0 m 37 ls []) := by
          intro fuel
          induction fuel with
          | zero => intro f9 pz fr2 ws2 V2 hm; exact absurd hm (Nat.not_lt_zero _)
          | succ fuel ih_37 =>
            intro f9 pz fr2 ws2 V2 hm_37 hf9 hzL hVK hM2 h0z hw2 h12 hwz hA2 H locs hP hD hS ls hl
            refine lv_aload_n hx hb dX6_readAll_37 rfl (lv_at hl 0 rfl) ?_
            refine va_get (D := D) (ci := 6) (v := .int (nI pz)) (C := RX6) (T := TX6) (N := 11) hx hb hts hi6 hown hK hP 0 rfl rfl 6 (by decide) (hts (.fieldLink RX6 45 "SelfCheckingCircuitModel" "spot" "I") (by decide +kernel)) (fun _ h9 => h9) rfl dX6_readAll_38 ?_
            refine lv_aload_n hx hb dX6_readAll_41 rfl (lv_at hl 0 rfl) ?_
            refine va_get (D := D) (ci := 6) (v := .int (nI L)) (C := RX6) (T := TX6) (N := 11) hx hb hts hi6 hown hK hP 0 rfl rfl 5 (by decide) (hts (.fieldLink RX6 41 "SelfCheckingCircuitModel" "length" "I") (by decide +kernel)) (fun _ h9 => h9) rfl dX6_readAll_42 ?_
            refine lv_icmp_ge (tgt := 78) hx hb dX6_readAll_45 (by decide) (fun c_2 => ?_) (fun c_2 => ?_)
            · have c_2h : nI L ≤ nI pz := c_2
              refine lv_bipush (v := (-104)) hx hb dX6_readAll_78 (by decide) ?_
              have hze : L ≤ pz := hk_ge L c_2 (hi := by have := hX.1; omega) (hn := by have := hX.1; omega)
              have hP9 := hP.sub (ws' := [(mo, .inr (6, [.ref ms, .ref mr, .ref mk, .int (nI km), .ref mt, .int (nI L), .int (nI pz), .int 0, .int (nI ws2), .ref mv, .ref me])), (mt, .inl (g.2.1, 200, .inl fx)), (mr, .inl (g.2.1, 147, .inl fr2))]) [0, 1, 2] rfl
              have hD9 := hD.sub (ws' := [(mo, .inr (6, [.ref ms, .ref mr, .ref mk, .int (nI km), .ref mt, .int (nI L), .int (nI pz), .int 0, .int (nI ws2), .ref mv, .ref me])), (mt, .inl (g.2.1, 200, .inl fx)), (mr, .inl (g.2.1, 147, .inl fr2))]) [0, 1, 2] (by decide) rfl
              exact W.iret (v := (-104)) hx hb hr (fun tt ht hW => ⟨⟨_, (0, (nI pz), fr2, ws2), rfl, ra_e ((pA_end (by omega) _).symm.trans hA2) hM2 hVK hw2 h12 hze (show ws2 ≤ 200 by have := hX.1; omega), by rw [ht]; exact hP9, hD9⟩, hS.F ht⟩) hS.2.2 dX6_readAll_80
            · have c_2h : ¬ nI L ≤ nI pz := c_2
              refine lv_aload_n hx hb dX6_readAll_48 rfl (lv_at hl 0 rfl) ?_
              refine va_get (D := D) (ci := 6) (v := .int (nI pz)) (C := RX6) (T := TX6) (N := 11) hx hb hts hi6 hown hK hP 0 rfl rfl 6 (by decide) (hts (.fieldLink RX6 45 "SelfCheckingCircuitModel" "spot" "I") (by decide +kernel)) (fun _ h9 => h9) rfl dX6_readAll_49 ?_
              refine lv_istore_n (lv' := [(1, .int (nI pz)), (0, .ref mo)]) hx hb dX6_readAll_52 rfl hl (by decide) rfl (fun ls hl => ?_)
              refine lv_aload_n hx hb dX6_readAll_53 rfl (lv_at hl 1 rfl) ?_
              refine lv_iload_n hx hb dX6_readAll_54 rfl (lv_at hl 0 rfl) ?_
              refine lv_if_ne (tgt := 62) hx hb dX6_readAll_55 (by decide) (fun c_3 => ?_) (fun c_3 => ?_)
              · have c_3h : ¬ nI pz = (0 : Int32) := c_3
                refine lv_iconst (v := 0) hx hb dX6_readAll_62 (by decide) ?_
                have hzl : pz < L := hk_nge L c_2 (hi := by have := hX.1; omega) (hn := by have := hX.1; omega)
                refine hk_cmv (wr := []) (va_runV (As := [.int 0]) (rest := []) ⟨hx, hb, hml, hown, hts⟩ (c6_statement l D g ti _ mo ms mr mk mt mv me km ws2 L pz fx tx fr2 V2.1 V2.2.1 V2.2.2.1 V2.2.2.2.1 V2.2.2.2.2.1 V2.2.2.2.2.2.1 V2.2.2.2.2.2.2.1 (nmV V2) 0 hX (by have := hX.1; omega) (⟨hVK.1, hVK.2.1, hVK.2.2.1, hVK.2.2.2.1⟩) hM2 (by rw [decide_eq_false (fun q => c_3 (by rw [q]; rfl))]; rfl) hw2 h0z) (cwV 1 hts gX6_readAll_X6_statement rfl rfl rfl (by decide +kernel) ⟨Nat.le_of_ble_eq_true rfl, Nat.le_of_ble_eq_true rfl⟩) (hk_inV hE hP hD hS hA 6 rfl rfl [0, 1, 2] (by decide) rfl rfl) rfl rfl hl.1 rfl (lv_room (Nat.le_of_ble_eq_true rfl)) dX6_readAll_63 ⟨Nat.zero_le _, Nat.zero_le _⟩) hP hD hS hA [0, 1, 2] [] rfl rfl (by decide) (by decide) (fun u8 H locs hst hP hD hS => ?_)
                obtain ⟨rs8, q8, fr8, w8⟩ := u8
                try dsimp only at hst
                have hP : va_P D vwCl [(mo, .inr (6, [.ref ms, .ref mr, .ref mk, .int (nI km), .ref mt, .int (nI L), .int (nI q8), .int rs8, .int (nI w8), .ref mv, .ref me])), (mt, .inl (g.2.1, 200, .inl fx)), (mr, .inl (g.2.1, 147, .inl fr8))] H := hP
                have hD : va_D A [(mo, .inr (6, [.ref ms, .ref mr, .ref mk, .int (nI km), .ref mt, .int (nI L), .int (nI q8), .int rs8, .int (nI w8), .ref mv, .ref me])), (mt, .inl (g.2.1, 200, .inl fx)), (mr, .inl (g.2.1, 147, .inl fr8))] := hD
                have hst : STp (pS tx L pz V2) rs8 q8 fr8 ws2 w8 := hst
                refine lv_aload_n hx hb dX6_readAll_66 rfl (lv_at hl 1 rfl) ?_
                refine va_get (D := D) (ci := 6) (v := .int rs8) (C := RX6) (T := TX6) (N := 11) hx hb hts hi6 hown hK hP 0 rfl rfl 7 (by decide) (hts (.fieldLink RX6 56 "SelfCheckingCircuitModel" "reason" "I") (by decide +kernel)) (fun _ h9 => h9) rfl dX6_readAll_67 ?_
                refine lv_if_eq (tgt := 75) hx hb dX6_readAll_70 (by decide) (fun c_5 => ?_) (fun c_5 => ?_)
                · have c_5h : rs8 = (0 : Int32) := c_5
                  refine lv_goto (tgt := 37) hx hb dX6_readAll_75 (by decide) ?_
                  have hz8 : (pS tx L pz V2).1 = 0 := nI_inj (b := 0) (hst.1.symm.trans c_5) (by have := pS_le (tx := tx) (L := L) (p := pz) (V := V2); omega) (by decide)
                  have hs8 := hst.2 hz8
                  have hpq := pS_q hX hz8
                  have hvk := VK_S hz8 hVK h12
                  have e8 := hs8.1
                  have e0 : rs8 = 0 := c_5
                  subst e0
                  exact ih_37 (f9 - 1) q8 fr8 w8 ((pS tx L pz V2).2.2) (by have := hX.1; omega) (by omega) (by omega) hvk.1 hs8.2.1 (fun q => absurd q (by omega)) hs8.2.2.1 (fun _ => hvk.2) (by have := hs8.2.2.2; omega) ((pA_go (f := f9 - 1) hzl hz8 e8 rfl).symm.trans ((show f9 - 1 + 1 = f9 by omega) ▸ hA2)) _ _ hP hD hS _ (lv_sub hl [1] rfl)
                · have c_5h : ¬ rs8 = (0 : Int32) := c_5
                  refine lv_iload_n hx hb dX6_readAll_73 rfl (lv_at hl 0 rfl) ?_
                  have hz8 : ¬ (pS tx L pz V2).1 = 0 := fun q => c_5 (by rw [hst.1, q]; rfl)
                  have hP9 := hP.sub (ws' := [(mo, .inr (6, [.ref ms, .ref mr, .ref mk, .int (nI km), .ref mt, .int (nI L), .int (nI q8), .int rs8, .int (nI w8), .ref mv, .ref me])), (mt, .inl (g.2.1, 200, .inl fx)), (mr, .inl (g.2.1, 147, .inl fr8))]) [0, 1, 2] rfl
                  have hD9 := hD.sub (ws' := [(mo, .inr (6, [.ref ms, .ref mr, .ref mk, .int (nI km), .ref mt, .int (nI L), .int (nI q8), .int rs8, .int (nI w8), .ref mv, .ref me])), (mt, .inl (g.2.1, 200, .inl fx)), (mr, .inl (g.2.1, 147, .inl fr8))]) [0, 1, 2] (by decide) rfl
                  exact W.iret (v := nI pz) hx hb hr (fun tt ht hW => ⟨⟨_, (rs8, (nI q8), fr8, w8), rfl, by rw [hst.1]; exact ra_f (by have := hX.1; omega) ((pA_stop (f := f9 - 1) hzl hz8).symm.trans ((show f9 - 1 + 1 = f9 by omega) ▸ hA2)), by rw [ht]; exact hP9, hD9⟩, hS.F ht⟩) hS.2.2 dX6_readAll_74
              · have c_3h : nI pz = (0 : Int32) := c_3
                refine lv_iconst (v := 1) hx hb dX6_readAll_58 (by decide) ?_
                refine lv_goto (tgt := 63) hx hb dX6_readAll_59 (by decide) ?_
                have hzl : pz < L := hk_nge L c_2 (hi := by have := hX.1; omega) (hn := by have := hX.1; omega)
                refine hk_cmv (wr := []) (va_runV (As := [.int 1]) (rest := []) ⟨hx, hb, hml, hown, hts⟩ (c6_statement l D g ti _ mo ms mr mk mt mv me km ws2 L pz fx tx fr2 V2.1 V2.2.1 V2.2.2.1 V2.2.2.2.1 V2.2.2.2.2.1 V2.2.2.2.2.2.1 V2.2.2.2.2.2.2.1 (nmV V2) 1 hX (by have := hX.1; omega) (⟨hVK.1, hVK.2.1, hVK.2.2.1, hVK.2.2.2.1⟩) hM2 (by rw [decide_eq_true (nI_inj (b := 0) c_3 (by have := hX.1; omega) (by decide))]; rfl) hw2 h0z) (cwV 1 hts gX6_readAll_X6_statement rfl rfl rfl (by decide +kernel) ⟨Nat.le_of_ble_eq_true rfl, Nat.le_of_ble_eq_true rfl⟩) (hk_inV hE hP hD hS hA 6 rfl rfl [0, 1, 2] (by decide) rfl rfl) rfl rfl hl.1 rfl (lv_room (Nat.le_of_ble_eq_true rfl)) dX6_readAll_63 ⟨Nat.zero_le _, Nat.zero_le _⟩) hP hD hS hA [0, 1, 2] [] rfl rfl (by decide) (by decide) (fun u8 H locs hst hP hD hS => ?_)
                obtain ⟨rs8, q8, fr8, w8⟩ := u8
                try dsimp only at hst
                have hP : va_P D vwCl [(mo, .inr (6, [.ref ms, .ref mr, .ref mk, .int (nI km), .ref mt, .int (nI L), .int (nI q8), .int rs8, .int (nI w8), .ref mv, .ref me])), (mt, .inl (g.2.1, 200, .inl fx)), (mr, .inl (g.2.1, 147, .inl fr8))] H := hP
                have hD : va_D A [(mo, .inr (6, [.ref ms, .ref mr, .ref mk, .int (nI km), .ref mt, .int (nI L), .int (nI q8), .int rs8, .int (nI w8), .ref mv, .ref me])), (mt, .inl (g.2.1, 200, .inl fx)), (mr, .inl (g.2.1, 147, .inl fr8))] := hD
                have hst : STp (pS tx L pz V2) rs8 q8 fr8 ws2 w8 := hst
                refine lv_aload_n hx hb dX6_readAll_66 rfl (lv_at hl 1 rfl) ?_
                refine va_get (D := D) (ci := 6) (v := .int rs8) (C := RX6) (T := TX6) (N := 11) hx hb hts hi6 hown hK hP 0 rfl rfl 7 (by decide) (hts (.fieldLink RX6 56 "SelfCheckingCircuitModel" "reason" "I") (by decide +kernel)) (fun _ h9 => h9) rfl dX6_readAll_67 ?_
                refine lv_if_eq (tgt := 75) hx hb dX6_readAll_70 (by decide) (fun c_7 => ?_) (fun c_7 => ?_)
                · have c_7h : rs8 = (0 : Int32) := c_7
                  refine lv_goto (tgt := 37) hx hb dX6_readAll_75 (by decide) ?_
                  have hz8 : (pS tx L pz V2).1 = 0 := nI_inj (b := 0) (hst.1.symm.trans c_7) (by have := pS_le (tx := tx) (L := L) (p := pz) (V := V2); omega) (by decide)
                  have hs8 := hst.2 hz8
                  have hpq := pS_q hX hz8
                  have hvk := VK_S hz8 hVK h12
                  have e8 := hs8.1
                  have e0 : rs8 = 0 := c_7
                  subst e0
                  exact ih_37 (f9 - 1) q8 fr8 w8 ((pS tx L pz V2).2.2) (by have := hX.1; omega) (by omega) (by omega) hvk.1 hs8.2.1 (fun q => absurd q (by omega)) hs8.2.2.1 (fun _ => hvk.2) (by have := hs8.2.2.2; omega) ((pA_go (f := f9 - 1) hzl hz8 e8 rfl).symm.trans ((show f9 - 1 + 1 = f9 by omega) ▸ hA2)) _ _ hP hD hS _ (lv_sub hl [1] rfl)
                · have c_7h : ¬ rs8 = (0 : Int32) := c_7
                  refine lv_iload_n hx hb dX6_readAll_73 rfl (lv_at hl 0 rfl) ?_
                  have hz8 : ¬ (pS tx L pz V2).1 = 0 := fun q => c_7 (by rw [hst.1, q]; rfl)
                  have hP9 := hP.sub (ws' := [(mo, .inr (6, [.ref ms, .ref mr, .ref mk, .int (nI km), .ref mt, .int (nI L), .int (nI q8), .int rs8, .int (nI w8), .ref mv, .ref me])), (mt, .inl (g.2.1, 200, .inl fx)), (mr, .inl (g.2.1, 147, .inl fr8))]) [0, 1, 2] rfl
                  have hD9 := hD.sub (ws' := [(mo, .inr (6, [.ref ms, .ref mr, .ref mk, .int (nI km), .ref mt, .int (nI L), .int (nI q8), .int rs8, .int (nI w8), .ref mv, .ref me])), (mt, .inl (g.2.1, 200, .inl fx)), (mr, .inl (g.2.1, 147, .inl fr8))]) [0, 1, 2] (by decide) rfl
                  exact W.iret (v := nI pz) hx hb hr (fun tt ht hW => ⟨⟨_, (rs8, (nI q8), fr8, w8), rfl, by rw [hst.1]; exact ra_f (by have := hX.1; omega) ((pA_stop (f := f9 - 1) hzl hz8).symm.trans ((show f9 - 1 + 1 = f9 by omega) ▸ hA2)), by rw [ht]; exact hP9, hD9⟩, hS.F ht⟩) hS.2.2 dX6_readAll_74
        exact loop37 _ 201 0 fz 0 Vz (Nat.lt_succ_self _) (by have := hX.1; omega) (Nat.zero_le _) VK_z (MR_z (fun j hj => hz0 j (by have := hk_ge 147 c_1; omega))) (fun _ => ⟨rfl, rfl, rfl, rfl, rfl⟩) (⟨fun _ => rfl, fun _ => rfl⟩) (fun q => absurd rfl q) (Nat.le_refl _) rfl _ _ hP hD hS _ (lv_sub hl [1] rfl)
      · have c_1h : ¬ (147 : Int32) ≤ nI i := c_1
        refine lv_aload_n hx hb dX6_readAll_9 rfl (lv_at hl 1 rfl) ?_
        refine va_get (D := D) (ci := 6) (v := .ref mr) (C := RX6) (T := TX6) (N := 11) hx hb hts hi6 hown hK hP 0 rfl rfl 1 (by decide) (hts (.fieldLink RX6 13 "SelfCheckingCircuitModel" "read" "[I") (by decide +kernel)) (fun _ h9 => h9) rfl dX6_readAll_10 ?_
        refine lv_iload_n hx hb dX6_readAll_13 rfl (lv_at hl 0 rfl) ?_
        refine lv_iconst (v := 0) hx hb dX6_readAll_14 (by decide) ?_
        refine va_iast hx hb hK hP hD hS 2 1 rfl rfl (vp_in_nI (N := 147) (hk_nge 147 c_1) (by decide)) dX6_readAll_15 (fun H locs hP hD hS => ?_)
        rw [show (nI i).toNatClampNeg = i from nI_clamp (by omega)] at hP hD
        have hP : va_P D vwCl [(mo, .inr (6, [.ref ms, .ref mr, .ref mk, .int (nI km), .ref mt, .int (nI L), .int spx, .int rx, .int wx, .ref mv, .ref me])), (mt, .inl (g.2.1, 200, .inl fx)), (mr, .inl (g.2.1, 147, .inl (upd fz i 0)))] H := hP
        have hD : va_D A [(mo, .inr (6, [.ref ms, .ref mr, .ref mk, .int (nI km), .ref mt, .int (nI L), .int spx, .int rx, .int wx, .ref mv, .ref me])), (mt, .inl (g.2.1, 200, .inl fx)), (mr, .inl (g.2.1, 147, .inl (upd fz i 0)))] := hD
        refine lv_iinc (v := (nI (i + 1))) (lv' := [(1, .int (nI (i + 1))), (0, .ref mo)]) hx hb dX6_readAll_16 hl (k := 0) rfl (nI_1 i) (by decide) rfl (fun ls hl => ?_)
        refine lv_goto (tgt := 2) hx hb dX6_readAll_19 (by decide) ?_
        have hlt : i < 147 := hk_nge 147 c_1
        exact ih_2 (i + 1) (upd fz i 0) (by omega) (by omega) (hk_up (fun _ v => v = 0) hz0 rfl) _ _ hP hD hS _ (lv_sub hl [0, 1] rfl)
  exact loop2 _ 0 fr (Nat.lt_succ_self _) (Nat.zero_le _) (fun _ h => absurd h (Nat.not_lt_zero _)) _ _ hP hD hS _ (lv_sub hl [0, 1] rfl)
set_option maxHeartbeats 4000000 in
set_option maxRecDepth 100000 in
theorem c6_firstError (l : Launch) (D : va_G) (g : hk_G) (ti : Nat) (sz : Nat) (mo : Nat) (ms : Nat) (mr : Nat) (mk : Nat) (mt : Nat) (mv : Nat) (me : Nat) (km : Nat) (L : Nat) (spx : Int32) (rx : Int32) (wx : Int32) (fx : Nat → Int32) (tx : Nat → Nat) (fr : Nat → Int32) (hX : TX tx L fx) : Met l yX6_firstError wsX6_firstError ({ frames := 5, cells := 0, slots := 0, locals := 116 }) (va_Pc [.ref mo] (hk_In D g ti [(mo, .inr (6, [.ref ms, .ref mr, .ref mk, .int (nI km), .ref mt, .int (nI L), .int spx, .int rx, .int wx, .ref mv, .ref me])), (mt, .inl (g.2.1, 200, .inl fx)), (mr, .inl (g.2.1, 147, .inl fr))] sz)) (va_Qi (S := Int32 × Int32 × (Nat → Int32) × Nat) (fun r u => r = (pA tx L 201 0 Vz).1) (fun u => hk_Out D (va_A [(mo, .inr (6, [.ref ms, .ref mr, .ref mk, .int (nI km), .ref mt, .int (nI L), .int spx, .int rx, .int wx, .ref mv, .ref me])), (mt, .inl (g.2.1, 200, .inl fx)), (mr, .inl (g.2.1, 147, .inl fr))] sz) (match u with | (rs', sp', f', w') => [(mo, .inr (6, [.ref ms, .ref mr, .ref mk, .int (nI km), .ref mt, .int (nI L), .int sp', .int rs', .int (nI w'), .ref mv, .ref me])), (mt, .inl (g.2.1, 200, .inl fx)), (mr, .inl (g.2.1, 147, .inl f'))])) (va_A [(mo, .inr (6, [.ref ms, .ref mr, .ref mk, .int (nI km), .ref mt, .int (nI L), .int spx, .int rx, .int wx, .ref mv, .ref me])), (mt, .inl (g.2.1, 200, .inl fx)), (mr, .inl (g.2.1, 147, .inl fr))] sz)) 0 0 (va_A [(mo, .inr (6, [.ref ms, .ref mr, .ref mk, .int (nI km), .ref mt, .int (nI L), .int spx, .int rx, .int wx, .ref mv, .ref me])), (mt, .inl (g.2.1, 200, .inl fx)), (mr, .inl (g.2.1, 147, .inl fr))] sz) := by
  refine Met.ofW (cc := cX6_firstError) (maxL := 1) (ret := (some .int)) (by decide) rfl ?_
  intro p e s m args below meth c s₁ Bd hml hv
  obtain ⟨rfl, hsz, hP, hD0, hE⟩ := hv
  have hx := Bd.exec
  have hb := Bd.bytes
  have hr := Bd.returns
  have hts := atoms_spec (ws := wsX6_firstError) Bd.pre
  have hown : s.vm.findClass RX6 = some m.cls := findClass_of_methodNamed Bd.named
  have hlocks := Bd.notSynchronized
  have hK := hE.1
  subst hsz
  have hD := hD0.self (sz := s.heap.size)
  generalize hAe : va_A [(mo, .inr (6, [.ref ms, .ref mr, .ref mk, .int (nI km), .ref mt, .int (nI L), .int spx, .int rx, .int wx, .ref mv, .ref me])), (mt, .inl (g.2.1, 200, .inl fx)), (mr, .inl (g.2.1, 147, .inl fr))] s.heap.size = A at hD hE ⊢
  have hA : ∀ q : Nat, s.heap.size ≤ q → A q := fun q h => by rw [← hAe]; exact Or.inr h
  have hS : va_S A s.heap s.heap [] := va_S.rf
  have hl := lv_entry ([.ref mo]) (n := 1) (Nat.le_of_ble_eq_true rfl)
  rw [lg_entry_eq]
  generalize (lg_sl ([.ref mo]) ++ List.replicate (1 - (lg_sl ([.ref mo])).length) Slot.unset).toArray = ls at hl ⊢
  have hl : lv_has ls 1 [(0, .ref mo)] := hl
  refine lv_aload_n hx hb dX6_firstError_0 rfl (lv_at hl 0 rfl) ?_
  refine hk_cmi (wr := []) (va_runV (As := []) (rest := []) ⟨hx, hb, hml, hown, hts⟩ (c6_readAll l D g ti _ mo ms mr mk mt mv me km L spx rx wx fx tx fr hX) (cwV 0 hts gX6_firstError_X6_readAll rfl rfl rfl (by decide +kernel) ⟨Nat.le_of_ble_eq_true rfl, Nat.le_of_ble_eq_true rfl⟩) (hk_inV hE hP hD hS hA 6 rfl rfl [0, 1, 2] (by decide) rfl rfl) rfl rfl hl.1 rfl (lv_room (Nat.le_of_ble_eq_true rfl)) dX6_firstError_1 ⟨Nat.zero_le _, Nat.zero_le _⟩) hP hD hS hA [0, 1, 2] [] rfl rfl (by decide) (by decide) (fun r8 u8 H locs hra hP hD hS => ?_)
  obtain ⟨rs8, sp8, fr8, w8⟩ := u8
  try dsimp only at hra
  have hP : va_P D vwCl [(mo, .inr (6, [.ref ms, .ref mr, .ref mk, .int (nI km), .ref mt, .int (nI L), .int sp8, .int rs8, .int (nI w8), .ref mv, .ref me])), (mt, .inl (g.2.1, 200, .inl fx)), (mr, .inl (g.2.1, 147, .inl fr8))] H := hP
  have hD : va_D A [(mo, .inr (6, [.ref ms, .ref mr, .ref mk, .int (nI km), .ref mt, .int (nI L), .int sp8, .int rs8, .int (nI w8), .ref mv, .ref me])), (mt, .inl (g.2.1, 200, .inl fx)), (mr, .inl (g.2.1, 147, .inl fr8))] := hD
  have hP9 := hP.sub (ws' := [(mo, .inr (6, [.ref ms, .ref mr, .ref mk, .int (nI km), .ref mt, .int (nI L), .int sp8, .int rs8, .int (nI w8), .ref mv, .ref me])), (mt, .inl (g.2.1, 200, .inl fx)), (mr, .inl (g.2.1, 147, .inl fr8))]) [0, 1, 2] rfl
  have hD9 := hD.sub (ws' := [(mo, .inr (6, [.ref ms, .ref mr, .ref mk, .int (nI km), .ref mt, .int (nI L), .int sp8, .int rs8, .int (nI w8), .ref mv, .ref me])), (mt, .inl (g.2.1, 200, .inl fx)), (mr, .inl (g.2.1, 147, .inl fr8))]) [0, 1, 2] (by decide) rfl
  exact W.iret (v := r8) hx hb hr (fun tt ht hW => ⟨⟨_, (rs8, sp8, fr8, w8), rfl, hra.1, by rw [ht]; exact hP9, hD9⟩, hS.F ht⟩) hS.2.2 dX6_firstError_4
set_option maxHeartbeats 4000000 in
set_option maxRecDepth 100000 in
theorem c6_errorReason (l : Launch) (D : va_G) (g : hk_G) (ti : Nat) (sz : Nat) (mo : Nat) (ms : Nat) (mr : Nat) (mk : Nat) (mt : Nat) (mv : Nat) (me : Nat) (km : Nat) (L : Nat) (spx : Int32) (rx : Int32) (wx : Int32) (fx : Nat → Int32) (tx : Nat → Nat) (fr : Nat → Int32) (hX : TX tx L fx) : Met l yX6_errorReason wsX6_errorReason ({ frames := 5, cells := 0, slots := 0, locals := 116 }) (va_Pc [.ref mo] (hk_In D g ti [(mo, .inr (6, [.ref ms, .ref mr, .ref mk, .int (nI km), .ref mt, .int (nI L), .int spx, .int rx, .int wx, .ref mv, .ref me])), (mt, .inl (g.2.1, 200, .inl fx)), (mr, .inl (g.2.1, 147, .inl fr))] sz)) (va_Qi (S := Int32 × Int32 × (Nat → Int32) × Nat) (fun r u => r = (pA tx L 201 0 Vz).2.1) (fun u => hk_Out D (va_A [(mo, .inr (6, [.ref ms, .ref mr, .ref mk, .int (nI km), .ref mt, .int (nI L), .int spx, .int rx, .int wx, .ref mv, .ref me])), (mt, .inl (g.2.1, 200, .inl fx)), (mr, .inl (g.2.1, 147, .inl fr))] sz) (match u with | (rs', sp', f', w') => [(mo, .inr (6, [.ref ms, .ref mr, .ref mk, .int (nI km), .ref mt, .int (nI L), .int sp', .int rs', .int (nI w'), .ref mv, .ref me])), (mt, .inl (g.2.1, 200, .inl fx)), (mr, .inl (g.2.1, 147, .inl f'))])) (va_A [(mo, .inr (6, [.ref ms, .ref mr, .ref mk, .int (nI km), .ref mt, .int (nI L), .int spx, .int rx, .int wx, .ref mv, .ref me])), (mt, .inl (g.2.1, 200, .inl fx)), (mr, .inl (g.2.1, 147, .inl fr))] sz)) 0 0 (va_A [(mo, .inr (6, [.ref ms, .ref mr, .ref mk, .int (nI km), .ref mt, .int (nI L), .int spx, .int rx, .int wx, .ref mv, .ref me])), (mt, .inl (g.2.1, 200, .inl fx)), (mr, .inl (g.2.1, 147, .inl fr))] sz) := by
  refine Met.ofW (cc := cX6_errorReason) (maxL := 1) (ret := (some .int)) (by decide) rfl ?_
  intro p e s m args below meth c s₁ Bd hml hv
  obtain ⟨rfl, hsz, hP, hD0, hE⟩ := hv
  have hx := Bd.exec
  have hb := Bd.bytes
  have hr := Bd.returns
  have hts := atoms_spec (ws := wsX6_errorReason) Bd.pre
  have hown : s.vm.findClass RX6 = some m.cls := findClass_of_methodNamed Bd.named
  have hlocks := Bd.notSynchronized
  have hK := hE.1
  have hi6 : ∀ w ∈ wsX60, w ∈ wsX6_errorReason := fun w h => List.mem_cons_of_mem _ (List.mem_append_right _ h)
  subst hsz
  have hD := hD0.self (sz := s.heap.size)
  generalize hAe : va_A [(mo, .inr (6, [.ref ms, .ref mr, .ref mk, .int (nI km), .ref mt, .int (nI L), .int spx, .int rx, .int wx, .ref mv, .ref me])), (mt, .inl (g.2.1, 200, .inl fx)), (mr, .inl (g.2.1, 147, .inl fr))] s.heap.size = A at hD hE ⊢
  have hA : ∀ q : Nat, s.heap.size ≤ q → A q := fun q h => by rw [← hAe]; exact Or.inr h
  have hS : va_S A s.heap s.heap [] := va_S.rf
  have hl := lv_entry ([.ref mo]) (n := 1) (Nat.le_of_ble_eq_true rfl)
  rw [lg_entry_eq]
  generalize (lg_sl ([.ref mo]) ++ List.replicate (1 - (lg_sl ([.ref mo])).length) Slot.unset).toArray = ls at hl ⊢
  have hl : lv_has ls 1 [(0, .ref mo)] := hl
  refine lv_aload_n hx hb dX6_errorReason_0 rfl (lv_at hl 0 rfl) ?_
  refine hk_cmi (wr := []) (va_runV (As := []) (rest := []) ⟨hx, hb, hml, hown, hts⟩ (c6_readAll l D g ti _ mo ms mr mk mt mv me km L spx rx wx fx tx fr hX) (cwV 0 hts gX6_errorReason_X6_readAll rfl rfl rfl (by decide +kernel) ⟨Nat.le_of_ble_eq_true rfl, Nat.le_of_ble_eq_true rfl⟩) (hk_inV hE hP hD hS hA 6 rfl rfl [0, 1, 2] (by decide) rfl rfl) rfl rfl hl.1 rfl (lv_room (Nat.le_of_ble_eq_true rfl)) dX6_errorReason_1 ⟨Nat.zero_le _, Nat.zero_le _⟩) hP hD hS hA [0, 1, 2] [] rfl rfl (by decide) (by decide) (fun r8 u8 H locs hra hP hD hS => ?_)
  obtain ⟨rs8, sp8, fr8, w8⟩ := u8
  try dsimp only at hra
  have hP : va_P D vwCl [(mo, .inr (6, [.ref ms, .ref mr, .ref mk, .int (nI km), .ref mt, .int (nI L), .int sp8, .int rs8, .int (nI w8), .ref mv, .ref me])), (mt, .inl (g.2.1, 200, .inl fx)), (mr, .inl (g.2.1, 147, .inl fr8))] H := hP
  have hD : va_D A [(mo, .inr (6, [.ref ms, .ref mr, .ref mk, .int (nI km), .ref mt, .int (nI L), .int sp8, .int rs8, .int (nI w8), .ref mv, .ref me])), (mt, .inl (g.2.1, 200, .inl fx)), (mr, .inl (g.2.1, 147, .inl fr8))] := hD
  refine lv_bipush (v := (-104)) hx hb dX6_errorReason_4 (by decide) ?_
  refine lv_icmp_ne (tgt := 14) hx hb dX6_errorReason_6 (by decide) (fun c_1 => ?_) (fun c_1 => ?_)
  · have c_1h : ¬ r8 = (-104 : Int32) := c_1
    refine lv_aload_n hx hb dX6_errorReason_14 rfl (lv_at hl 0 rfl) ?_
    refine va_get (D := D) (ci := 6) (v := .int rs8) (C := RX6) (T := TX6) (N := 11) hx hb hts hi6 hown hK hP 0 rfl rfl 7 (by decide) (hts (.fieldLink RX6 56 "SelfCheckingCircuitModel" "reason" "I") (by decide +kernel)) (fun _ h9 => h9) rfl dX6_errorReason_15 ?_
    have hP9 := hP.sub (ws' := [(mo, .inr (6, [.ref ms, .ref mr, .ref mk, .int (nI km), .ref mt, .int (nI L), .int sp8, .int rs8, .int (nI w8), .ref mv, .ref me])), (mt, .inl (g.2.1, 200, .inl fx)), (mr, .inl (g.2.1, 147, .inl fr8))]) [0, 1, 2] rfl
    have hD9 := hD.sub (ws' := [(mo, .inr (6, [.ref ms, .ref mr, .ref mk, .int (nI km), .ref mt, .int (nI L), .int sp8, .int rs8, .int (nI w8), .ref mv, .ref me])), (mt, .inl (g.2.1, 200, .inl fx)), (mr, .inl (g.2.1, 147, .inl fr8))]) [0, 1, 2] (by decide) rfl
    exact W.iret (v := rs8) hx hb hr (fun tt ht hW => ⟨⟨_, (rs8, sp8, fr8, w8), rfl, hra.2.1 c_1, by rw [ht]; exact hP9, hD9⟩, hS.F ht⟩) hS.2.2 dX6_errorReason_18
  · have c_1h : r8 = (-104 : Int32) := c_1
    refine lv_bipush (v := (-104)) hx hb dX6_errorReason_9 (by decide) ?_
    refine lv_goto (tgt := 18) hx hb dX6_errorReason_11 (by decide) ?_
    have hP9 := hP.sub (ws' := [(mo, .inr (6, [.ref ms, .ref mr, .ref mk, .int (nI km), .ref mt, .int (nI L), .int sp8, .int rs8, .int (nI w8), .ref mv, .ref me])), (mt, .inl (g.2.1, 200, .inl fx)), (mr, .inl (g.2.1, 147, .inl fr8))]) [0, 1, 2] rfl
    have hD9 := hD.sub (ws' := [(mo, .inr (6, [.ref ms, .ref mr, .ref mk, .int (nI km), .ref mt, .int (nI L), .int sp8, .int rs8, .int (nI w8), .ref mv, .ref me])), (mt, .inl (g.2.1, 200, .inl fx)), (mr, .inl (g.2.1, 147, .inl fr8))]) [0, 1, 2] (by decide) rfl
    exact W.iret (v := (-104)) hx hb hr (fun tt ht hW => ⟨⟨_, (rs8, sp8, fr8, w8), rfl, ((pA_r hX.1 _ _ _).mp (hra.1.symm.trans c_1)).symm, by rw [ht]; exact hP9, hD9⟩, hS.F ht⟩) hS.2.2 dX6_errorReason_18
set_option maxHeartbeats 4000000 in
set_option maxRecDepth 100000 in
theorem c6_configure_no (l : Launch) (D : va_G) (g : hk_G) (ti : Nat) (sz : Nat) (mo : Nat) (ms : Nat) (mr : Nat) (mk : Nat) (mt : Nat) (mv : Nat) (me : Nat) (km : Nat) (L : Nat) (spx : Int32) (rx : Int32) (wx : Int32) (fx : Nat → Int32) (tx : Nat → Nat) (fr : Nat → Int32) (hX : TX tx L fx) (hno : L = 0 ∨ ¬ (pA tx L 201 0 Vz).1 = -104) : Met l yX6_configure wsX6_configure ({ frames := 5, cells := 0, slots := 0, locals := 116 }) (va_Pc [.ref mo] (hk_In D g ti [(mo, .inr (6, [.ref ms, .ref mr, .ref mk, .int (nI km), .ref mt, .int (nI L), .int spx, .int rx, .int wx, .ref mv, .ref me])), (mt, .inl (g.2.1, 200, .inl fx)), (mr, .inl (g.2.1, 147, .inl fr))] sz)) (va_Qi (S := Int32 × Int32 × (Nat → Int32) × Nat) (fun r u => r = -102) (fun u => hk_Out D (va_A [(mo, .inr (6, [.ref ms, .ref mr, .ref mk, .int (nI km), .ref mt, .int (nI L), .int spx, .int rx, .int wx, .ref mv, .ref me])), (mt, .inl (g.2.1, 200, .inl fx)), (mr, .inl (g.2.1, 147, .inl fr))] sz) (match u with | (rs', sp', f', w') => [(mo, .inr (6, [.ref ms, .ref mr, .ref mk, .int (nI km), .ref mt, .int (nI L), .int sp', .int rs', .int (nI w'), .ref mv, .ref me])), (mt, .inl (g.2.1, 200, .inl fx)), (mr, .inl (g.2.1, 147, .inl f'))])) (va_A [(mo, .inr (6, [.ref ms, .ref mr, .ref mk, .int (nI km), .ref mt, .int (nI L), .int spx, .int rx, .int wx, .ref mv, .ref me])), (mt, .inl (g.2.1, 200, .inl fx)), (mr, .inl (g.2.1, 147, .inl fr))] sz)) 0 0 (va_A [(mo, .inr (6, [.ref ms, .ref mr, .ref mk, .int (nI km), .ref mt, .int (nI L), .int spx, .int rx, .int wx, .ref mv, .ref me])), (mt, .inl (g.2.1, 200, .inl fx)), (mr, .inl (g.2.1, 147, .inl fr))] sz) := by
  refine Met.ofW (cc := cX6_configure) (maxL := 2) (ret := (some .int)) (by decide) rfl ?_
  intro p e s m args below meth c s₁ Bd hml hv
  obtain ⟨rfl, hsz, hP, hD0, hE⟩ := hv
  have hx := Bd.exec
  have hb := Bd.bytes
  have hr := Bd.returns
  have hts := atoms_spec (ws := wsX6_configure) Bd.pre
  have hown : s.vm.findClass RX6 = some m.cls := findClass_of_methodNamed Bd.named
  have hlocks := Bd.notSynchronized
  have hK := hE.1
  have hi6 : ∀ w ∈ wsX60, w ∈ wsX6_configure := fun w h => List.mem_cons_of_mem _ (List.mem_append_right _ h)
  subst hsz
  have hD := hD0.self (sz := s.heap.size)
  generalize hAe : va_A [(mo, .inr (6, [.ref ms, .ref mr, .ref mk, .int (nI km), .ref mt, .int (nI L), .int spx, .int rx, .int wx, .ref mv, .ref me])), (mt, .inl (g.2.1, 200, .inl fx)), (mr, .inl (g.2.1, 147, .inl fr))] s.heap.size = A at hD hE ⊢
  have hA : ∀ q : Nat, s.heap.size ≤ q → A q := fun q h => by rw [← hAe]; exact Or.inr h
  have hS : va_S A s.heap s.heap [] := va_S.rf
  have hl := lv_entry ([.ref mo]) (n := 2) (Nat.le_of_ble_eq_true rfl)
  rw [lg_entry_eq]
  generalize (lg_sl ([.ref mo]) ++ List.replicate (2 - (lg_sl ([.ref mo])).length) Slot.unset).toArray = ls at hl ⊢
  have hl : lv_has ls 2 [(0, .ref mo)] := hl
  refine lv_aload_n hx hb dX6_configure_0 rfl (lv_at hl 0 rfl) ?_
  refine hk_cmi (wr := []) (va_runV (As := []) (rest := []) ⟨hx, hb, hml, hown, hts⟩ (c6_readAll l D g ti _ mo ms mr mk mt mv me km L spx rx wx fx tx fr hX) (cwV 0 hts gX6_configure_X6_readAll rfl rfl rfl (by decide +kernel) ⟨Nat.le_of_ble_eq_true rfl, Nat.le_of_ble_eq_true rfl⟩) (hk_inV hE hP hD hS hA 6 rfl rfl [0, 1, 2] (by decide) rfl rfl) rfl rfl hl.1 rfl (lv_room (Nat.le_of_ble_eq_true rfl)) dX6_configure_1 ⟨Nat.zero_le _, Nat.zero_le _⟩) hP hD hS hA [0, 1, 2] [] rfl rfl (by decide) (by decide) (fun r8 u8 H locs hra hP hD hS => ?_)
  obtain ⟨rs8, sp8, fr8, w8⟩ := u8
  try dsimp only at hra
  have hP : va_P D vwCl [(mo, .inr (6, [.ref ms, .ref mr, .ref mk, .int (nI km), .ref mt, .int (nI L), .int sp8, .int rs8, .int (nI w8), .ref mv, .ref me])), (mt, .inl (g.2.1, 200, .inl fx)), (mr, .inl (g.2.1, 147, .inl fr8))] H := hP
  have hD : va_D A [(mo, .inr (6, [.ref ms, .ref mr, .ref mk, .int (nI km), .ref mt, .int (nI L), .int sp8, .int rs8, .int (nI w8), .ref mv, .ref me])), (mt, .inl (g.2.1, 200, .inl fx)), (mr, .inl (g.2.1, 147, .inl fr8))] := hD
  refine lv_bipush (v := (-104)) hx hb dX6_configure_4 (by decide) ?_
  refine lv_icmp_ne (tgt := 16) hx hb dX6_configure_6 (by decide) (fun c_1 => ?_) (fun c_1 => ?_)
  · have c_1h : ¬ r8 = (-104 : Int32) := c_1
    refine lv_bipush (v := (-102)) hx hb dX6_configure_16 (by decide) ?_
    have hP9 := hP.sub (ws' := [(mo, .inr (6, [.ref ms, .ref mr, .ref mk, .int (nI km), .ref mt, .int (nI L), .int sp8, .int rs8, .int (nI w8), .ref mv, .ref me])), (mt, .inl (g.2.1, 200, .inl fx)), (mr, .inl (g.2.1, 147, .inl fr8))]) [0, 1, 2] rfl
    have hD9 := hD.sub (ws' := [(mo, .inr (6, [.ref ms, .ref mr, .ref mk, .int (nI km), .ref mt, .int (nI L), .int sp8, .int rs8, .int (nI w8), .ref mv, .ref me])), (mt, .inl (g.2.1, 200, .inl fx)), (mr, .inl (g.2.1, 147, .inl fr8))]) [0, 1, 2] (by decide) rfl
    exact W.iret (v := (-102)) hx hb hr (fun tt ht hW => ⟨⟨_, (rs8, sp8, fr8, w8), rfl, rfl, by rw [ht]; exact hP9, hD9⟩, hS.F ht⟩) hS.2.2 dX6_configure_18
  · have c_1h : r8 = (-104 : Int32) := c_1
    refine lv_aload_n hx hb dX6_configure_9 rfl (lv_at hl 0 rfl) ?_
    refine va_get (D := D) (ci := 6) (v := .int (nI L)) (C := RX6) (T := TX6) (N := 11) hx hb hts hi6 hown hK hP 0 rfl rfl 5 (by decide) (hts (.fieldLink RX6 41 "SelfCheckingCircuitModel" "length" "I") (by decide +kernel)) (fun _ h9 => h9) rfl dX6_configure_10 ?_
    refine lv_if_ne (tgt := 19) hx hb dX6_configure_13 (by decide) (fun c_2 => ?_) (fun c_2 => ?_)
    · have c_2h : ¬ nI L = (0 : Int32) := c_2
      exact absurd (hra.1.symm.trans c_1) (hno.resolve_left (fun q => c_2 (by rw [q]; rfl)))
    · have c_2h : nI L = (0 : Int32) := c_2
      refine lv_bipush (v := (-102)) hx hb dX6_configure_16 (by decide) ?_
      have hP9 := hP.sub (ws' := [(mo, .inr (6, [.ref ms, .ref mr, .ref mk, .int (nI km), .ref mt, .int (nI L), .int sp8, .int rs8, .int (nI w8), .ref mv, .ref me])), (mt, .inl (g.2.1, 200, .inl fx)), (mr, .inl (g.2.1, 147, .inl fr8))]) [0, 1, 2] rfl
      have hD9 := hD.sub (ws' := [(mo, .inr (6, [.ref ms, .ref mr, .ref mk, .int (nI km), .ref mt, .int (nI L), .int sp8, .int rs8, .int (nI w8), .ref mv, .ref me])), (mt, .inl (g.2.1, 200, .inl fx)), (mr, .inl (g.2.1, 147, .inl fr8))]) [0, 1, 2] (by decide) rfl
      exact W.iret (v := (-102)) hx hb hr (fun tt ht hW => ⟨⟨_, (rs8, sp8, fr8, w8), rfl, rfl, by rw [ht]; exact hP9, hD9⟩, hS.F ht⟩) hS.2.2 dX6_configure_18
theorem pw_64b {n : Nat} (h : n ≤ 6) : 2 ^ n ≤ 64 := Nat.pow_le_pow_right (by decide) h
theorem cf_st {gr fr : Nat → Int32} {i : Nat} (h : ∀ x, x < 64 → gr (83 + x) = if x < i then 1 else fr (83 + x)) : ∀ x, x < 64 → upd gr (83 + i) 1 (83 + x) = if x < i + 1 then 1 else fr (83 + x) := by
  intro x hx
  by_cases e : x = i
  · subst e; rw [pk_us, if_pos (by omega)]
  · rw [pk_un (by omega), h x hx]
    by_cases q : x < i
    · rw [if_pos q, if_pos (by omega)]
    · rw [if_neg q, if_neg (by omega)]
theorem cf_x1 {gr fr : Nat → Int32} {i w n : Nat} (h : ∀ x, x < 64 → gr (83 + x) = if x < i then 1 else fr (83 + x)) (hz : 0 < i → w = 0) (hi : i = 2 ^ n) : ∀ x, x < 64 → gr (83 + x) = if w = 0 ∧ x < 2 ^ n then 1 else fr (83 + x) := by
  intro x hx
  have hw : w = 0 := hz (by rw [hi]; exact Nat.two_pow_pos n)
  rw [h x hx, hi]
  by_cases q : x < 2 ^ n
  · rw [if_pos q, if_pos ⟨hw, q⟩]
  · rw [if_neg q, if_neg (fun z => q z.2)]
theorem cf_x2 {gr fr : Nat → Int32} {i w n : Nat} (h : ∀ x, x < 64 → gr (83 + x) = if x < i then 1 else fr (83 + x)) (hz : 0 < i → w = 0) (hw : ¬ w = 0) : ∀ x, x < 64 → gr (83 + x) = if w = 0 ∧ x < 2 ^ n then 1 else fr (83 + x) := by
  intro x hx
  have hi : i = 0 := by rcases Nat.eq_zero_or_pos i with q | q; exact q; exact absurd (hz q) hw
  rw [h x hx, if_neg (by omega), if_neg (fun z => hw z.1)]
theorem cf_N {V : VT} {cd wt : Nat} {gs : Nat → Int32} (h : MRw (VN V) cd wt gs) (hV : VK V) : gs 0 + gs 1 = nI (VN V).2.1 := by
  obtain ⟨n, N, o, ty, pa, pb, vo, nm⟩ := V
  exact mr_N h hV.2.1
set_option maxHeartbeats 4000000 in
set_option maxRecDepth 100000 in
theorem c6_configure (l : Launch) (D : va_G) (g : hk_G) (ti : Nat) (sz : Nat) (mo : Nat) (ms : Nat) (mr : Nat) (mk : Nat) (mt : Nat) (mv : Nat) (me : Nat) (km : Nat) (L : Nat) (spx : Int32) (rx : Int32) (wx : Int32) (fx : Nat → Int32) (tx : Nat → Nat) (fr : Nat → Int32) (fs : Nat → Int32) (cd : Nat) (wt : Nat) (hX : TX tx L fx) (h81 : fs 81 = nI cd) (h82 : fs 82 = nI wt) (hL0 : 0 < L) (hok : (pA tx L 201 0 Vz).1 = -104) : Met l yX6_configure wsX6_configure ({ frames := 5, cells := 0, slots := 0, locals := 116 }) (va_Pc [.ref mo] (hk_In D g ti [(mo, .inr (6, [.ref ms, .ref mr, .ref mk, .int (nI km), .ref mt, .int (nI L), .int spx, .int rx, .int wx, .ref mv, .ref me])), (mt, .inl (g.2.1, 200, .inl fx)), (mr, .inl (g.2.1, 147, .inl fr)), (ms, .inl (g.2.1, 147, .inl fs))] sz)) (va_Qi (S := Int32 × Int32 × (Nat → Int32) × Nat × (Nat → Int32)) (fun r u => r = nI (VN (pA tx L 201 0 Vz).2.2).2.1 ∧ MRw (VN (pA tx L 201 0 Vz).2.2) cd wt u.2.2.2.2) (fun u => hk_Out D (va_A [(mo, .inr (6, [.ref ms, .ref mr, .ref mk, .int (nI km), .ref mt, .int (nI L), .int spx, .int rx, .int wx, .ref mv, .ref me])), (mt, .inl (g.2.1, 200, .inl fx)), (mr, .inl (g.2.1, 147, .inl fr)), (ms, .inl (g.2.1, 147, .inl fs))] sz) (match u with | (rs', sp', f', w', s') => [(mo, .inr (6, [.ref ms, .ref mr, .ref mk, .int 0, .ref mt, .int (nI L), .int sp', .int rs', .int (nI w'), .ref mv, .ref me])), (mt, .inl (g.2.1, 200, .inl fx)), (mr, .inl (g.2.1, 147, .inl f')), (ms, .inl (g.2.1, 147, .inl s'))])) (va_A [(mo, .inr (6, [.ref ms, .ref mr, .ref mk, .int (nI km), .ref mt, .int (nI L), .int spx, .int rx, .int wx, .ref mv, .ref me])), (mt, .inl (g.2.1, 200, .inl fx)), (mr, .inl (g.2.1, 147, .inl fr)), (ms, .inl (g.2.1, 147, .inl fs))] sz)) 0 0 (va_A [(mo, .inr (6, [.ref ms, .ref mr, .ref mk, .int (nI km), .ref mt, .int (nI L), .int spx, .int rx, .int wx, .ref mv, .ref me])), (mt, .inl (g.2.1, 200, .inl fx)), (mr, .inl (g.2.1, 147, .inl fr)), (ms, .inl (g.2.1, 147, .inl fs))] sz) := by
  refine Met.ofW (cc := cX6_configure) (maxL := 2) (ret := (some .int)) (by decide) rfl ?_
  intro p e s m args below meth c s₁ Bd hml hv
  obtain ⟨rfl, hsz, hP, hD0, hE⟩ := hv
  have hx := Bd.exec
  have hb := Bd.bytes
  have hr := Bd.returns
  have hts := atoms_spec (ws := wsX6_configure) Bd.pre
  have hown : s.vm.findClass RX6 = some m.cls := findClass_of_methodNamed Bd.named
  have hlocks := Bd.notSynchronized
  have hK := hE.1
  have hi6 : ∀ w ∈ wsX60, w ∈ wsX6_configure := fun w h => List.mem_cons_of_mem _ (List.mem_append_right _ h)
  subst hsz
  have hD := hD0.self (sz := s.heap.size)
  generalize hAe : va_A [(mo, .inr (6, [.ref ms, .ref mr, .ref mk, .int (nI km), .ref mt, .int (nI L), .int spx, .int rx, .int wx, .ref mv, .ref me])), (mt, .inl (g.2.1, 200, .inl fx)), (mr, .inl (g.2.1, 147, .inl fr)), (ms, .inl (g.2.1, 147, .inl fs))] s.heap.size = A at hD hE ⊢
  have hA : ∀ q : Nat, s.heap.size ≤ q → A q := fun q h => by rw [← hAe]; exact Or.inr h
  have hS : va_S A s.heap s.heap [] := va_S.rf
  have hl := lv_entry ([.ref mo]) (n := 2) (Nat.le_of_ble_eq_true rfl)
  rw [lg_entry_eq]
  generalize (lg_sl ([.ref mo]) ++ List.replicate (2 - (lg_sl ([.ref mo])).length) Slot.unset).toArray = ls at hl ⊢
  have hl : lv_has ls 2 [(0, .ref mo)] := hl
  refine lv_aload_n hx hb dX6_configure_0 rfl (lv_at hl 0 rfl) ?_
  refine hk_cmi (wr := [(ms, .inl (g.2.1, 147, .inl fs))]) (va_runV (As := []) (rest := []) ⟨hx, hb, hml, hown, hts⟩ (c6_readAll l D g ti _ mo ms mr mk mt mv me km L spx rx wx fx tx fr hX) (cwV 0 hts gX6_configure_X6_readAll rfl rfl rfl (by decide +kernel) ⟨Nat.le_of_ble_eq_true rfl, Nat.le_of_ble_eq_true rfl⟩) (hk_inV hE hP hD hS hA 6 rfl rfl [0, 1, 2] (by decide) rfl rfl) rfl rfl hl.1 rfl (lv_room (Nat.le_of_ble_eq_true rfl)) dX6_configure_1 ⟨Nat.zero_le _, Nat.zero_le _⟩) hP hD hS hA [0, 1, 2] [3] rfl rfl (by decide) (by decide) (fun r8 u8 H locs hra hP hD hS => ?_)
  obtain ⟨rs8, sp8, fr8, w8⟩ := u8
  try dsimp only at hra
  have hP : va_P D vwCl [(ms, .inl (g.2.1, 147, .inl fs)), (mo, .inr (6, [.ref ms, .ref mr, .ref mk, .int (nI km), .ref mt, .int (nI L), .int sp8, .int rs8, .int (nI w8), .ref mv, .ref me])), (mt, .inl (g.2.1, 200, .inl fx)), (mr, .inl (g.2.1, 147, .inl fr8))] H := hP
  have hD : va_D A [(ms, .inl (g.2.1, 147, .inl fs)), (mo, .inr (6, [.ref ms, .ref mr, .ref mk, .int (nI km), .ref mt, .int (nI L), .int sp8, .int rs8, .int (nI w8), .ref mv, .ref me])), (mt, .inl (g.2.1, 200, .inl fx)), (mr, .inl (g.2.1, 147, .inl fr8))] := hD
  obtain ⟨V9, hV9⟩ : ∃ V, V = (pA tx L 201 0 Vz).2.2 := ⟨_, rfl⟩
  have hr9 : r8 = -104 := hra.1.trans hok
  have hq9 := hra.2.2 hr9
  rw [← hV9] at hq9
  have hn9 := hq9.2.1.1
  refine lv_bipush (v := (-104)) hx hb dX6_configure_4 (by decide) ?_
  refine lv_icmp_ne (tgt := 16) hx hb dX6_configure_6 (by decide) (fun c_1 => ?_) (fun c_1 => ?_)
  · have c_1h : ¬ r8 = (-104 : Int32) := c_1
    exact absurd hr9 c_1
  · have c_1h : r8 = (-104 : Int32) := c_1
    refine lv_aload_n hx hb dX6_configure_9 rfl (lv_at hl 0 rfl) ?_
    refine va_get (D := D) (ci := 6) (v := .int (nI L)) (C := RX6) (T := TX6) (N := 11) hx hb hts hi6 hown hK hP 1 rfl rfl 5 (by decide) (hts (.fieldLink RX6 41 "SelfCheckingCircuitModel" "length" "I") (by decide +kernel)) (fun _ h9 => h9) rfl dX6_configure_10 ?_
    refine lv_if_ne (tgt := 19) hx hb dX6_configure_13 (by decide) (fun c_2 => ?_) (fun c_2 => ?_)
    · have c_2h : ¬ nI L = (0 : Int32) := c_2
      refine lv_aload_n hx hb dX6_configure_19 rfl (lv_at hl 0 rfl) ?_
      refine va_get (D := D) (ci := 6) (v := .ref mr) (C := RX6) (T := TX6) (N := 11) hx hb hts hi6 hown hK hP 1 rfl rfl 1 (by decide) (hts (.fieldLink RX6 13 "SelfCheckingCircuitModel" "read" "[I") (by decide +kernel)) (fun _ h9 => h9) rfl dX6_configure_20 ?_
      refine lv_bipush (v := 81) hx hb dX6_configure_23 (by decide) ?_
      refine lv_aload_n hx hb dX6_configure_25 rfl (lv_at hl 0 rfl) ?_
      refine va_get (D := D) (ci := 6) (v := .ref ms) (C := RX6) (T := TX6) (N := 11) hx hb hts hi6 hown hK hP 1 rfl rfl 0 (by decide) (hts (.fieldLink RX6 7 "SelfCheckingCircuitModel" "s" "[I") (by decide +kernel)) (fun _ h9 => h9) rfl dX6_configure_26 ?_
      refine lv_bipush (v := 81) hx hb dX6_configure_29 (by decide) ?_
      refine va_iald hx hb hK hP 0 1 rfl rfl (by unfold vp_in; decide) dX6_configure_31 ?_
      refine hk_ti (fs 81) (congrArg fs (by decide)) ?_
      refine hk_ti (nI cd) (h81) ?_
      refine va_iast hx hb hK hP hD hS 3 1 rfl rfl (by unfold vp_in; decide) dX6_configure_32 (fun H locs hP hD hS => ?_)
      rw [show (81 : Int32).toNatClampNeg = 81 from by decide] at hP hD
      have hP : va_P D vwCl [(ms, .inl (g.2.1, 147, .inl fs)), (mo, .inr (6, [.ref ms, .ref mr, .ref mk, .int (nI km), .ref mt, .int (nI L), .int sp8, .int rs8, .int (nI w8), .ref mv, .ref me])), (mt, .inl (g.2.1, 200, .inl fx)), (mr, .inl (g.2.1, 147, .inl (upd fr8 81 (nI cd))))] H := hP
      have hD : va_D A [(ms, .inl (g.2.1, 147, .inl fs)), (mo, .inr (6, [.ref ms, .ref mr, .ref mk, .int (nI km), .ref mt, .int (nI L), .int sp8, .int rs8, .int (nI w8), .ref mv, .ref me])), (mt, .inl (g.2.1, 200, .inl fx)), (mr, .inl (g.2.1, 147, .inl (upd fr8 81 (nI cd))))] := hD
      refine lv_aload_n hx hb dX6_configure_33 rfl (lv_at hl 0 rfl) ?_
      refine va_get (D := D) (ci := 6) (v := .ref mr) (C := RX6) (T := TX6) (N := 11) hx hb hts hi6 hown hK hP 1 rfl rfl 1 (by decide) (hts (.fieldLink RX6 13 "SelfCheckingCircuitModel" "read" "[I") (by decide +kernel)) (fun _ h9 => h9) rfl dX6_configure_34 ?_
      refine lv_bipush (v := 82) hx hb dX6_configure_37 (by decide) ?_
      refine lv_aload_n hx hb dX6_configure_39 rfl (lv_at hl 0 rfl) ?_
      refine va_get (D := D) (ci := 6) (v := .ref ms) (C := RX6) (T := TX6) (N := 11) hx hb hts hi6 hown hK hP 1 rfl rfl 0 (by decide) (hts (.fieldLink RX6 7 "SelfCheckingCircuitModel" "s" "[I") (by decide +kernel)) (fun _ h9 => h9) rfl dX6_configure_40 ?_
      refine lv_bipush (v := 82) hx hb dX6_configure_43 (by decide) ?_
      refine va_iald hx hb hK hP 0 1 rfl rfl (by unfold vp_in; decide) dX6_configure_45 ?_
      refine hk_ti (fs 82) (congrArg fs (by decide)) ?_
      refine hk_ti (nI wt) (h82) ?_
      refine va_iast hx hb hK hP hD hS 3 1 rfl rfl (by unfold vp_in; decide) dX6_configure_46 (fun H locs hP hD hS => ?_)
      rw [show (82 : Int32).toNatClampNeg = 82 from by decide] at hP hD
      have hP : va_P D vwCl [(ms, .inl (g.2.1, 147, .inl fs)), (mo, .inr (6, [.ref ms, .ref mr, .ref mk, .int (nI km), .ref mt, .int (nI L), .int sp8, .int rs8, .int (nI w8), .ref mv, .ref me])), (mt, .inl (g.2.1, 200, .inl fx)), (mr, .inl (g.2.1, 147, .inl (upd (upd fr8 81 (nI cd)) 82 (nI wt))))] H := hP
      have hD : va_D A [(ms, .inl (g.2.1, 147, .inl fs)), (mo, .inr (6, [.ref ms, .ref mr, .ref mk, .int (nI km), .ref mt, .int (nI L), .int sp8, .int rs8, .int (nI w8), .ref mv, .ref me])), (mt, .inl (g.2.1, 200, .inl fx)), (mr, .inl (g.2.1, 147, .inl (upd (upd fr8 81 (nI cd)) 82 (nI wt))))] := hD
      refine lv_iconst (v := 0) hx hb dX6_configure_47 (by decide) ?_
      refine lv_istore_n (lv' := [(1, .int 0), (0, .ref mo)]) hx hb dX6_configure_48 rfl hl (by decide) rfl (fun ls hl => ?_)
      have loop49 : ∀ (fuel : Nat) (i : Nat) (gr : Nat → Int32), (65 - i) < fuel → (i ≤ 2 ^ V9.1) → (∀ j, j < 83 → gr j = (upd (upd fr8 81 (nI cd)) 82 (nI wt)) j) → (∀ x, x < 64 → gr (83 + x) = if x < i then 1 else (upd (upd fr8 81 (nI cd)) 82 (nI wt)) (83 + x)) → (0 < i → w8 = 0) → ∀ (H : Heap) (locs : List Loc), va_P D vwCl [(mo, .inr (6, [.ref ms, .ref mr, .ref mk, .int (nI km), .ref mt, .int (nI L), .int sp8, .int rs8, .int (nI w8), .ref mv, .ref me])), (mt, .inl (g.2.1, 200, .inl fx)), (mr, .inl (g.2.1, 147, .inl gr)), (ms, .inl (g.2.1, 147, .inl fs))] H → va_D A [(mo, .inr (6, [.ref ms, .ref mr, .ref mk, .int (nI km), .ref mt, .int (nI L), .int sp8, .int rs8, .int (nI w8), .ref mv, .ref me])), (mt, .inl (g.2.1, 200, .inl fx)), (mr, .inl (g.2.1, 147, .inl gr)), (ms, .inl (g.2.1, 147, .inl fs))] → va_S A s.heap H locs → ∀ ls : Array Slot, lv_has ls 2 [(1, .int (nI i)), (0, .ref mo)] → W p l e (headSpec wsX6_configure ({ frames := 5, cells := 0, slots := 0, locals := 116 })).room s m ([.ref mo] : List Value).toArray below meth c H locs 0 0 (MQ below (va_Qi (S := Int32 × Int32 × (Nat → Int32) × Nat × (Nat → Int32)) (fun r u => r = nI (VN (pA tx L 201 0 Vz).2.2).2.1 ∧ MRw (VN (pA tx L 201 0 Vz).2.2) cd wt u.2.2.2.2) (fun u => hk_Out D A (match u with | (rs', sp', f', w', s') => [(mo, .inr (6, [.ref ms, .ref mr, .ref mk, .int 0, .ref mt, .int (nI L), .int sp', .int rs', .int (nI w'), .ref mv, .ref me])), (mt, .inl (g.2.1, 200, .inl fx)), (mr, .inl (g.2.1, 147, .inl f')), (ms, .inl (g.2.1, 147, .inl s'))])) A) ([.ref mo] : List Value).toArray s 0 0 A) (F0 m 49 ls []) := by
        intro fuel
        induction fuel with
        | zero => intro i gr hm; exact absurd hm (Nat.not_lt_zero _)
        | succ fuel ih_49 =>
          intro i gr hm_49 hi hlo hhi hzi H locs hP hD hS ls hl
          refine lv_iload_n hx hb dX6_configure_49 rfl (lv_at hl 0 rfl) ?_
          refine lv_iconst (v := 1) hx hb dX6_configure_50 (by decide) ?_
          refine lv_aload_n hx hb dX6_configure_51 rfl (lv_at hl 1 rfl) ?_
          refine va_get (D := D) (ci := 6) (v := .ref mr) (C := RX6) (T := TX6) (N := 11) hx hb hts hi6 hown hK hP 0 rfl rfl 1 (by decide) (hts (.fieldLink RX6 13 "SelfCheckingCircuitModel" "read" "[I") (by decide +kernel)) (fun _ h9 => h9) rfl dX6_configure_52 ?_
          refine lv_iconst (v := 0) hx hb dX6_configure_55 (by decide) ?_
          refine va_iald hx hb hK hP 2 1 rfl rfl (by unfold vp_in; decide) dX6_configure_56 ?_
          refine hk_ti (gr 0) (congrArg gr (by decide)) ?_
          refine hk_ti (nI V9.1) ((hlo 0 (by decide)).trans (by rw [pk_un (by decide), pk_un (by decide)]; exact hq9.1.1.1)) ?_
          refine lv_ishl hx hb dX6_configure_57 ?_
          refine hk_ti (nI (2 ^ V9.1)) (hn_pw V9.1 (by omega)) ?_
          refine lv_icmp_ge (tgt := 84) hx hb dX6_configure_58 (by decide) (fun c_3 => ?_) (fun c_3 => ?_)
          · have c_3h : nI (2 ^ V9.1) ≤ nI i := c_3
            refine lv_iconst (v := 0) hx hb dX6_configure_84 (by decide) ?_
            refine lv_istore_n (lv' := [(1, .int 0), (0, .ref mo)]) hx hb dX6_configure_85 rfl hl (by decide) rfl (fun ls hl => ?_)
            have loop86 : ∀ (fuel : Nat) (i2 : Nat) (gs : Nat → Int32), (147 - i2) < fuel → (i2 ≤ 147) → (∀ j, j < i2 → gs j = gr j) → ∀ (H : Heap) (locs : List Loc), va_P D vwCl [(mo, .inr (6, [.ref ms, .ref mr, .ref mk, .int (nI km), .ref mt, .int (nI L), .int sp8, .int rs8, .int (nI w8), .ref mv, .ref me])), (mt, .inl (g.2.1, 200, .inl fx)), (mr, .inl (g.2.1, 147, .inl gr)), (ms, .inl (g.2.1, 147, .inl gs))] H → va_D A [(mo, .inr (6, [.ref ms, .ref mr, .ref mk, .int (nI km), .ref mt, .int (nI L), .int sp8, .int rs8, .int (nI w8), .ref mv, .ref me])), (mt, .inl (g.2.1, 200, .inl fx)), (mr, .inl (g.2.1, 147, .inl gr)), (ms, .inl (g.2.1, 147, .inl gs))] → va_S A s.heap H locs → ∀ ls : Array Slot, lv_has ls 2 [(1, .int (nI i2)), (0, .ref mo)] → W p l e (headSpec wsX6_configure ({ frames := 5, cells := 0, slots := 0, locals := 116 })).room s m ([.ref mo] : List Value).toArray below meth c H locs 0 0 (MQ below (va_Qi (S := Int32 × Int32 × (Nat → Int32) × Nat × (Nat → Int32)) (fun r u => r = nI (VN (pA tx L 201 0 Vz).2.2).2.1 ∧ MRw (VN (pA tx L 201 0 Vz).2.2) cd wt u.2.2.2.2) (fun u => hk_Out D A (match u with | (rs', sp', f', w', s') => [(mo, .inr (6, [.ref ms, .ref mr, .ref mk, .int 0, .ref mt, .int (nI L), .int sp', .int rs', .int (nI w'), .ref mv, .ref me])), (mt, .inl (g.2.1, 200, .inl fx)), (mr, .inl (g.2.1, 147, .inl f')), (ms, .inl (g.2.1, 147, .inl s'))])) A) ([.ref mo] : List Value).toArray s 0 0 A) (F0 m 86 ls []) := by
              intro fuel
              induction fuel with
              | zero => intro i2 gs hm; exact absurd hm (Nat.not_lt_zero _)
              | succ fuel ih_86 =>
                intro i2 gs hm_86 hi2 hcp H locs hP hD hS ls hl
                refine lv_iload_n hx hb dX6_configure_86 rfl (lv_at hl 0 rfl) ?_
                refine lv_sipush (v := 147) hx hb dX6_configure_87 (by decide) ?_
                refine lv_icmp_ge (tgt := 111) hx hb dX6_configure_90 (by decide) (fun c_4 => ?_) (fun c_4 => ?_)
                · have c_4h : (147 : Int32) ≤ nI i2 := c_4
                  refine lv_aload_n hx hb dX6_configure_111 rfl (lv_at hl 1 rfl) ?_
                  refine lv_iconst (v := 0) hx hb dX6_configure_112 (by decide) ?_
                  refine va_put (D := D) (ci := 6) (v := .int 0) (ty := .int) (C := RX6) (T := TX6) (N := 11) hx hb hts hi6 tyX6 tyX6_ok nmX6 hown hK hP hD hS 0 rfl rfl 3 (by decide) (hts (.fieldLink RX6 95 "SelfCheckingCircuitModel" "keptMany" "I") (by decide +kernel)) (fun _ h9 => h9) rfl (by decide +kernel) rfl rfl (Nat.le_of_ble_eq_true rfl) dX6_configure_113 (fun H locs hP hD hS => ?_)
                  have hP : va_P D vwCl [(mo, .inr (6, [.ref ms, .ref mr, .ref mk, .int 0, .ref mt, .int (nI L), .int sp8, .int rs8, .int (nI w8), .ref mv, .ref me])), (mt, .inl (g.2.1, 200, .inl fx)), (mr, .inl (g.2.1, 147, .inl gr)), (ms, .inl (g.2.1, 147, .inl gs))] H := hP
                  have hD : va_D A [(mo, .inr (6, [.ref ms, .ref mr, .ref mk, .int 0, .ref mt, .int (nI L), .int sp8, .int rs8, .int (nI w8), .ref mv, .ref me])), (mt, .inl (g.2.1, 200, .inl fx)), (mr, .inl (g.2.1, 147, .inl gr)), (ms, .inl (g.2.1, 147, .inl gs))] := hD
                  have hFin : MRw (VN V9) cd wt gs := cf_fin hq9.1 hq9.2.1 hq9.2.2.1 hlo (fun x hx => (cf_x1 (n := V9.1) hhi hzi (by have := (nI_leI (a := 2 ^ V9.1) (b := i) (pw_31 hn9) (by have := pw_64b hn9; omega)).mp c_3; omega) x hx).trans (by rw [pk_un (by omega), pk_un (by omega)])) (fun j hj => hcp j (by have := hk_ge 147 c_4; omega))
                  refine lv_aload_n hx hb dX6_configure_116 rfl (lv_at hl 1 rfl) ?_
                  refine va_get (D := D) (ci := 6) (v := .ref ms) (C := RX6) (T := TX6) (N := 11) hx hb hts hi6 hown hK hP 0 rfl rfl 0 (by decide) (hts (.fieldLink RX6 7 "SelfCheckingCircuitModel" "s" "[I") (by decide +kernel)) (fun _ h9 => h9) rfl dX6_configure_117 ?_
                  refine hk_csi (va_runS (As := [.ref ms]) (rest := []) ⟨hx, hb, hml, hown, hts⟩ (c6_nodesOf l D g ti ms gs ) (va_cwS 1 hts gX6_configure_X6_nodesOf rfl rfl rfl (by decide +kernel) ⟨Nat.le_of_ble_eq_true rfl, Nat.le_of_ble_eq_true rfl⟩) (hk_roS hE hP hS [3] rfl) rfl rfl hl.1 rfl (lv_room (Nat.le_of_ble_eq_true rfl)) dX6_configure_120 ⟨Nat.zero_le _, Nat.zero_le _⟩) (fun r_5 hr_6 => ?_)
                  subst hr_6
                  refine hk_ti (nI (VN V9).2.1) (cf_N hFin hq9.2.1) ?_
                  have hP9 := hP.sub (ws' := [(mo, .inr (6, [.ref ms, .ref mr, .ref mk, .int 0, .ref mt, .int (nI L), .int sp8, .int rs8, .int (nI w8), .ref mv, .ref me])), (mt, .inl (g.2.1, 200, .inl fx)), (mr, .inl (g.2.1, 147, .inl gr)), (ms, .inl (g.2.1, 147, .inl gs))]) [0, 1, 2, 3] rfl
                  have hD9 := hD.sub (ws' := [(mo, .inr (6, [.ref ms, .ref mr, .ref mk, .int 0, .ref mt, .int (nI L), .int sp8, .int rs8, .int (nI w8), .ref mv, .ref me])), (mt, .inl (g.2.1, 200, .inl fx)), (mr, .inl (g.2.1, 147, .inl gr)), (ms, .inl (g.2.1, 147, .inl gs))]) [0, 1, 2, 3] (by decide) rfl
                  exact W.iret (v := nI (VN V9).2.1) hx hb hr (fun tt ht hW => ⟨⟨_, (rs8, sp8, gr, w8, gs), rfl, ⟨by rw [← hV9], by rw [← hV9]; exact hFin⟩, by rw [ht]; exact hP9, hD9⟩, hS.F ht⟩) hS.2.2 dX6_configure_123
                · have c_4h : ¬ (147 : Int32) ≤ nI i2 := c_4
                  refine lv_aload_n hx hb dX6_configure_93 rfl (lv_at hl 1 rfl) ?_
                  refine va_get (D := D) (ci := 6) (v := .ref ms) (C := RX6) (T := TX6) (N := 11) hx hb hts hi6 hown hK hP 0 rfl rfl 0 (by decide) (hts (.fieldLink RX6 7 "SelfCheckingCircuitModel" "s" "[I") (by decide +kernel)) (fun _ h9 => h9) rfl dX6_configure_94 ?_
                  refine lv_iload_n hx hb dX6_configure_97 rfl (lv_at hl 0 rfl) ?_
                  refine lv_aload_n hx hb dX6_configure_98 rfl (lv_at hl 1 rfl) ?_
                  refine va_get (D := D) (ci := 6) (v := .ref mr) (C := RX6) (T := TX6) (N := 11) hx hb hts hi6 hown hK hP 0 rfl rfl 1 (by decide) (hts (.fieldLink RX6 13 "SelfCheckingCircuitModel" "read" "[I") (by decide +kernel)) (fun _ h9 => h9) rfl dX6_configure_99 ?_
                  refine lv_iload_n hx hb dX6_configure_102 rfl (lv_at hl 0 rfl) ?_
                  refine va_iald hx hb hK hP 2 1 rfl rfl (vp_in_nI (N := 147) (hk_nge 147 c_4) (by decide)) dX6_configure_103 ?_
                  refine hk_ti (gr i2) (congrArg gr (nI_clamp (by omega))) ?_
                  refine va_iast hx hb hK hP hD hS 3 1 rfl rfl (vp_in_nI (N := 147) (hk_nge 147 c_4) (by decide)) dX6_configure_104 (fun H locs hP hD hS => ?_)
                  rw [show (nI i2).toNatClampNeg = i2 from nI_clamp (by omega)] at hP hD
                  have hP : va_P D vwCl [(mo, .inr (6, [.ref ms, .ref mr, .ref mk, .int (nI km), .ref mt, .int (nI L), .int sp8, .int rs8, .int (nI w8), .ref mv, .ref me])), (mt, .inl (g.2.1, 200, .inl fx)), (mr, .inl (g.2.1, 147, .inl gr)), (ms, .inl (g.2.1, 147, .inl (upd gs i2 (gr i2))))] H := hP
                  have hD : va_D A [(mo, .inr (6, [.ref ms, .ref mr, .ref mk, .int (nI km), .ref mt, .int (nI L), .int sp8, .int rs8, .int (nI w8), .ref mv, .ref me])), (mt, .inl (g.2.1, 200, .inl fx)), (mr, .inl (g.2.1, 147, .inl gr)), (ms, .inl (g.2.1, 147, .inl (upd gs i2 (gr i2))))] := hD
                  refine lv_iinc (v := (nI (i2 + 1))) (lv' := [(1, .int (nI (i2 + 1))), (0, .ref mo)]) hx hb dX6_configure_105 hl (k := 0) rfl (nI_1 i2) (by decide) rfl (fun ls hl => ?_)
                  refine lv_goto (tgt := 86) hx hb dX6_configure_108 (by decide) ?_
                  have hlt : i2 < 147 := hk_nge 147 c_4
                  exact ih_86 (i2 + 1) (upd gs i2 (gr i2)) (by omega) (by omega) (hk_up (fun j v => v = gr j) hcp rfl) _ _ hP hD hS _ (lv_sub hl [0, 1] rfl)
            exact loop86 _ 0 fs (Nat.lt_succ_self _) (Nat.zero_le _) (fun _ h => absurd h (Nat.not_lt_zero _)) _ _ hP hD hS _ (lv_sub hl [0, 1] rfl)
          · have c_3h : ¬ nI (2 ^ V9.1) ≤ nI i := c_3
            refine lv_aload_n hx hb dX6_configure_61 rfl (lv_at hl 1 rfl) ?_
            refine va_get (D := D) (ci := 6) (v := .int (nI w8)) (C := RX6) (T := TX6) (N := 11) hx hb hts hi6 hown hK hP 0 rfl rfl 8 (by decide) (hts (.fieldLink RX6 85 "SelfCheckingCircuitModel" "words" "I") (by decide +kernel)) (fun _ h9 => h9) rfl dX6_configure_62 ?_
            refine lv_if_ne (tgt := 84) hx hb dX6_configure_65 (by decide) (fun c_7 => ?_) (fun c_7 => ?_)
            · have c_7h : ¬ nI w8 = (0 : Int32) := c_7
              refine lv_iconst (v := 0) hx hb dX6_configure_84 (by decide) ?_
              refine lv_istore_n (lv' := [(1, .int 0), (0, .ref mo)]) hx hb dX6_configure_85 rfl hl (by decide) rfl (fun ls hl => ?_)
              have loop86 : ∀ (fuel : Nat) (i2 : Nat) (gs : Nat → Int32), (147 - i2) < fuel → (i2 ≤ 147) → (∀ j, j < i2 → gs j = gr j) → ∀ (H : Heap) (locs : List Loc), va_P D vwCl [(mo, .inr (6, [.ref ms, .ref mr, .ref mk, .int (nI km), .ref mt, .int (nI L), .int sp8, .int rs8, .int (nI w8), .ref mv, .ref me])), (mt, .inl (g.2.1, 200, .inl fx)), (mr, .inl (g.2.1, 147, .inl gr)), (ms, .inl (g.2.1, 147, .inl gs))] H → va_D A [(mo, .inr (6, [.ref ms, .ref mr, .ref mk, .int (nI km), .ref mt, .int (nI L), .int sp8, .int rs8, .int (nI w8), .ref mv, .ref me])), (mt, .inl (g.2.1, 200, .inl fx)), (mr, .inl (g.2.1, 147, .inl gr)), (ms, .inl (g.2.1, 147, .inl gs))] → va_S A s.heap H locs → ∀ ls : Array Slot, lv_has ls 2 [(1, .int (nI i2)), (0, .ref mo)] → W p l e (headSpec wsX6_configure ({ frames := 5, cells := 0, slots := 0, locals := 116 })).room s m ([.ref mo] : List Value).toArray below meth c H locs 0 0 (MQ below (va_Qi (S := Int32 × Int32 × (Nat → Int32) × Nat × (Nat → Int32)) (fun r u => r = nI (VN (pA tx L 201 0 Vz).2.2).2.1 ∧ MRw (VN (pA tx L 201 0 Vz).2.2) cd wt u.2.2.2.2) (fun u => hk_Out D A (match u with | (rs', sp', f', w', s') => [(mo, .inr (6, [.ref ms, .ref mr, .ref mk, .int 0, .ref mt, .int (nI L), .int sp', .int rs', .int (nI w'), .ref mv, .ref me])), (mt, .inl (g.2.1, 200, .inl fx)), (mr, .inl (g.2.1, 147, .inl f')), (ms, .inl (g.2.1, 147, .inl s'))])) A) ([.ref mo] : List Value).toArray s 0 0 A) (F0 m 86 ls []) := by
                intro fuel
                induction fuel with
                | zero => intro i2 gs hm; exact absurd hm (Nat.not_lt_zero _)
                | succ fuel ih_86 =>
                  intro i2 gs hm_86 hi2 hcp H locs hP hD hS ls hl
                  refine lv_iload_n hx hb dX6_configure_86 rfl (lv_at hl 0 rfl) ?_
                  refine lv_sipush (v := 147) hx hb dX6_configure_87 (by decide) ?_
                  refine lv_icmp_ge (tgt := 111) hx hb dX6_configure_90 (by decide) (fun c_8 => ?_) (fun c_8 => ?_)
                  · have c_8h : (147 : Int32) ≤ nI i2 := c_8
                    refine lv_aload_n hx hb dX6_configure_111 rfl (lv_at hl 1 rfl) ?_
                    refine lv_iconst (v := 0) hx hb dX6_configure_112 (by decide) ?_
                    refine va_put (D := D) (ci := 6) (v := .int 0) (ty := .int) (C := RX6) (T := TX6) (N := 11) hx hb hts hi6 tyX6 tyX6_ok nmX6 hown hK hP hD hS 0 rfl rfl 3 (by decide) (hts (.fieldLink RX6 95 "SelfCheckingCircuitModel" "keptMany" "I") (by decide +kernel)) (fun _ h9 => h9) rfl (by decide +kernel) rfl rfl (Nat.le_of_ble_eq_true rfl) dX6_configure_113 (fun H locs hP hD hS => ?_)
                    have hP : va_P D vwCl [(mo, .inr (6, [.ref ms, .ref mr, .ref mk, .int 0, .ref mt, .int (nI L), .int sp8, .int rs8, .int (nI w8), .ref mv, .ref me])), (mt, .inl (g.2.1, 200, .inl fx)), (mr, .inl (g.2.1, 147, .inl gr)), (ms, .inl (g.2.1, 147, .inl gs))] H := hP
                    have hD : va_D A [(mo, .inr (6, [.ref ms, .ref mr, .ref mk, .int 0, .ref mt, .int (nI L), .int sp8, .int rs8, .int (nI w8), .ref mv, .ref me])), (mt, .inl (g.2.1, 200, .inl fx)), (mr, .inl (g.2.1, 147, .inl gr)), (ms, .inl (g.2.1, 147, .inl gs))] := hD
                    have hFin : MRw (VN V9) cd wt gs := cf_fin hq9.1 hq9.2.1 hq9.2.2.1 hlo (fun x hx => (cf_x2 (n := V9.1) hhi hzi (fun q => c_7 (by rw [q]; rfl)) x hx).trans (by rw [pk_un (by omega), pk_un (by omega)])) (fun j hj => hcp j (by have := hk_ge 147 c_8; omega))
                    refine lv_aload_n hx hb dX6_configure_116 rfl (lv_at hl 1 rfl) ?_
                    refine va_get (D := D) (ci := 6) (v := .ref ms) (C := RX6) (T := TX6) (N := 11) hx hb hts hi6 hown hK hP 0 rfl rfl 0 (by decide) (hts (.fieldLink RX6 7 "SelfCheckingCircuitModel" "s" "[I") (by decide +kernel)) (fun _ h9 => h9) rfl dX6_configure_117 ?_
                    refine hk_csi (va_runS (As := [.ref ms]) (rest := []) ⟨hx, hb, hml, hown, hts⟩ (c6_nodesOf l D g ti ms gs ) (va_cwS 1 hts gX6_configure_X6_nodesOf rfl rfl rfl (by decide +kernel) ⟨Nat.le_of_ble_eq_true rfl, Nat.le_of_ble_eq_true rfl⟩) (hk_roS hE hP hS [3] rfl) rfl rfl hl.1 rfl (lv_room (Nat.le_of_ble_eq_true rfl)) dX6_configure_120 ⟨Nat.zero_le _, Nat.zero_le _⟩) (fun r_9 hr_10 => ?_)
                    subst hr_10
                    refine hk_ti (nI (VN V9).2.1) (cf_N hFin hq9.2.1) ?_
                    have hP9 := hP.sub (ws' := [(mo, .inr (6, [.ref ms, .ref mr, .ref mk, .int 0, .ref mt, .int (nI L), .int sp8, .int rs8, .int (nI w8), .ref mv, .ref me])), (mt, .inl (g.2.1, 200, .inl fx)), (mr, .inl (g.2.1, 147, .inl gr)), (ms, .inl (g.2.1, 147, .inl gs))]) [0, 1, 2, 3] rfl
                    have hD9 := hD.sub (ws' := [(mo, .inr (6, [.ref ms, .ref mr, .ref mk, .int 0, .ref mt, .int (nI L), .int sp8, .int rs8, .int (nI w8), .ref mv, .ref me])), (mt, .inl (g.2.1, 200, .inl fx)), (mr, .inl (g.2.1, 147, .inl gr)), (ms, .inl (g.2.1, 147, .inl gs))]) [0, 1, 2, 3] (by decide) rfl
                    exact W.iret (v := nI (VN V9).2.1) hx hb hr (fun tt ht hW => ⟨⟨_, (rs8, sp8, gr, w8, gs), rfl, ⟨by rw [← hV9], by rw [← hV9]; exact hFin⟩, by rw [ht]; exact hP9, hD9⟩, hS.F ht⟩) hS.2.2 dX6_configure_123
                  · have c_8h : ¬ (147 : Int32) ≤ nI i2 := c_8
                    refine lv_aload_n hx hb dX6_configure_93 rfl (lv_at hl 1 rfl) ?_
                    refine va_get (D := D) (ci := 6) (v := .ref ms) (C := RX6) (T := TX6) (N := 11) hx hb hts hi6 hown hK hP 0 rfl rfl 0 (by decide) (hts (.fieldLink RX6 7 "SelfCheckingCircuitModel" "s" "[I") (by decide +kernel)) (fun _ h9 => h9) rfl dX6_configure_94 ?_
                    refine lv_iload_n hx hb dX6_configure_97 rfl (lv_at hl 0 rfl) ?_
                    refine lv_aload_n hx hb dX6_configure_98 rfl (lv_at hl 1 rfl) ?_
                    refine va_get (D := D) (ci := 6) (v := .ref mr) (C := RX6) (T := TX6) (N := 11) hx hb hts hi6 hown hK hP 0 rfl rfl 1 (by decide) (hts (.fieldLink RX6 13 "SelfCheckingCircuitModel" "read" "[I") (by decide +kernel)) (fun _ h9 => h9) rfl dX6_configure_99 ?_
                    refine lv_iload_n hx hb dX6_configure_102 rfl (lv_at hl 0 rfl) ?_
                    refine va_iald hx hb hK hP 2 1 rfl rfl (vp_in_nI (N := 147) (hk_nge 147 c_8) (by decide)) dX6_configure_103 ?_
                    refine hk_ti (gr i2) (congrArg gr (nI_clamp (by omega))) ?_
                    refine va_iast hx hb hK hP hD hS 3 1 rfl rfl (vp_in_nI (N := 147) (hk_nge 147 c_8) (by decide)) dX6_configure_104 (fun H locs hP hD hS => ?_)
                    rw [show (nI i2).toNatClampNeg = i2 from nI_clamp (by omega)] at hP hD
                    have hP : va_P D vwCl [(mo, .inr (6, [.ref ms, .ref mr, .ref mk, .int (nI km), .ref mt, .int (nI L), .int sp8, .int rs8, .int (nI w8), .ref mv, .ref me])), (mt, .inl (g.2.1, 200, .inl fx)), (mr, .inl (g.2.1, 147, .inl gr)), (ms, .inl (g.2.1, 147, .inl (upd gs i2 (gr i2))))] H := hP
                    have hD : va_D A [(mo, .inr (6, [.ref ms, .ref mr, .ref mk, .int (nI km), .ref mt, .int (nI L), .int sp8, .int rs8, .int (nI w8), .ref mv, .ref me])), (mt, .inl (g.2.1, 200, .inl fx)), (mr, .inl (g.2.1, 147, .inl gr)), (ms, .inl (g.2.1, 147, .inl (upd gs i2 (gr i2))))] := hD
                    refine lv_iinc (v := (nI (i2 + 1))) (lv' := [(1, .int (nI (i2 + 1))), (0, .ref mo)]) hx hb dX6_configure_105 hl (k := 0) rfl (nI_1 i2) (by decide) rfl (fun ls hl => ?_)
                    refine lv_goto (tgt := 86) hx hb dX6_configure_108 (by decide) ?_
                    have hlt : i2 < 147 := hk_nge 147 c_8
                    exact ih_86 (i2 + 1) (upd gs i2 (gr i2)) (by omega) (by omega) (hk_up (fun j v => v = gr j) hcp rfl) _ _ hP hD hS _ (lv_sub hl [0, 1] rfl)
              exact loop86 _ 0 fs (Nat.lt_succ_self _) (Nat.zero_le _) (fun _ h => absurd h (Nat.not_lt_zero _)) _ _ hP hD hS _ (lv_sub hl [0, 1] rfl)
            · have c_7h : nI w8 = (0 : Int32) := c_7
              refine lv_aload_n hx hb dX6_configure_68 rfl (lv_at hl 1 rfl) ?_
              refine va_get (D := D) (ci := 6) (v := .ref mr) (C := RX6) (T := TX6) (N := 11) hx hb hts hi6 hown hK hP 0 rfl rfl 1 (by decide) (hts (.fieldLink RX6 13 "SelfCheckingCircuitModel" "read" "[I") (by decide +kernel)) (fun _ h9 => h9) rfl dX6_configure_69 ?_
              refine lv_bipush (v := 83) hx hb dX6_configure_72 (by decide) ?_
              refine lv_iload_n hx hb dX6_configure_74 rfl (lv_at hl 0 rfl) ?_
              refine lv_iadd hx hb dX6_configure_75 ?_
              refine hk_ti (nI (83 + i)) (nI_add 83 i) ?_
              refine lv_iconst (v := 1) hx hb dX6_configure_76 (by decide) ?_
              refine va_iast hx hb hK hP hD hS 2 1 rfl rfl (vp_in_nI (N := 147) (by have := lt_pw hn9 (by have := pw_64b hn9; omega) c_3; have := pw_64b hn9; omega) (by decide)) dX6_configure_77 (fun H locs hP hD hS => ?_)
              rw [show (nI (83 + i)).toNatClampNeg = 83 + i from nI_clamp (by have := pw_64b hn9; omega)] at hP hD
              have hP : va_P D vwCl [(mo, .inr (6, [.ref ms, .ref mr, .ref mk, .int (nI km), .ref mt, .int (nI L), .int sp8, .int rs8, .int (nI w8), .ref mv, .ref me])), (mt, .inl (g.2.1, 200, .inl fx)), (mr, .inl (g.2.1, 147, .inl (upd gr (83 + i) 1))), (ms, .inl (g.2.1, 147, .inl fs))] H := hP
              have hD : va_D A [(mo, .inr (6, [.ref ms, .ref mr, .ref mk, .int (nI km), .ref mt, .int (nI L), .int sp8, .int rs8, .int (nI w8), .ref mv, .ref me])), (mt, .inl (g.2.1, 200, .inl fx)), (mr, .inl (g.2.1, 147, .inl (upd gr (83 + i) 1))), (ms, .inl (g.2.1, 147, .inl fs))] := hD
              refine lv_iinc (v := (nI (i + 1))) (lv' := [(1, .int (nI (i + 1))), (0, .ref mo)]) hx hb dX6_configure_78 hl (k := 0) rfl (nI_1 i) (by decide) rfl (fun ls hl => ?_)
              refine lv_goto (tgt := 49) hx hb dX6_configure_81 (by decide) ?_
              have hlt : i < 2 ^ V9.1 := lt_pw hn9 (by have := pw_64b hn9; omega) c_3
              exact ih_49 (i + 1) (upd gr (83 + i) 1) (by have := pw_64b hn9; omega) (by omega) (fun j hj => by rw [pk_un (by omega)]; exact hlo j hj) (fun x hx => cf_st hhi x hx) (fun _ => nI_inj (b := 0) c_7 (by have := hq9.2.2.2.2; omega) (by decide)) _ _ hP hD hS _ (lv_sub hl [0, 1] rfl)
      exact loop49 _ 0 (upd (upd fr8 81 (nI cd)) 82 (nI wt)) (Nat.lt_succ_self _) (Nat.zero_le _) (fun _ _ => rfl) (fun _ _ => (if_neg (Nat.not_lt_zero _)).symm) (fun h => absurd h (Nat.lt_irrefl _)) _ _ (hP.sub [1, 2, 3, 0] rfl) (hD.sub [1, 2, 3, 0] (by decide) rfl) hS _ (lv_sub hl [0, 1] rfl)
    · have c_2h : nI L = (0 : Int32) := c_2
      exact absurd c_2 (nI_ne0 hL0 (by have := hX.1; omega))
