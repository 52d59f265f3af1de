set_option maxHeartbeats 4000000 in
set_option maxRecDepth 100000 in
theorem c6_manyR (l : Launch) (D : va_G) (g : hk_G) (ti : Nat) (mo : Nat) (ms : Nat) (mr : Nat) (mk : Nat) (mt : Nat) (mv : Nat) (me : Nat) (fs : Nat → Int32) (ln : Nat) (sp : Nat) (rs : Nat) (ws : Nat) (kx : Int32) (n : Nat) (h0 : fs 0 = nI n) (hn6 : n ≤ 6) : Met l yX6_many wsX6_many ({ frames := 0, cells := 0, slots := 0, locals := 0 }) (va_Pc [.ref mo] (hk_Ro D g ti [(mo, .inr (6, [.ref ms, .ref mr, .ref mk, .int kx, .ref mt, .int (nI ln), .int (nI sp), .int (nI rs), .int (nI ws), .ref mv, .ref me])), (ms, .inl (g.2.1, 147, .inl fs))])) (vp_Si (fun r => r = nI (2 ^ n))) 0 0 (fun _ => False) := by
  refine Met.ofW (cc := cX6_many) (maxL := 1) (ret := (some .int)) (by decide) rfl ?_
  intro p e s m args below meth c s₁ Bd hml hv
  obtain ⟨rfl, hP, hE⟩ := hv
  have hx := Bd.exec
  have hb := Bd.bytes
  have hr := Bd.returns
  have hts := atoms_spec (ws := wsX6_many) Bd.pre
  have hown : s.vm.findClass RX6 = some m.cls := findClass_of_methodNamed Bd.named
  have hlocks := Bd.notSynchronized
  have hK := hE.1
  have hi6 : ∀ w ∈ wsX60, w ∈ wsX6_many := fun w h => List.mem_cons_of_mem _ (List.mem_append_right _ h)
  have hS : va_S (fun _ => False) s.heap s.heap [] := va_S.rf
  have hl := lv_entry ([.ref mo]) (n := 1) (Nat.le_of_ble_eq_true rfl)
  rw [lg_entry_eq]
  generalize (lg_sl ([.ref mo]) ++ List.replicate (1 - (lg_sl ([.ref mo])).length) Slot.unset).toArray = ls at hl ⊢
  have hl : lv_has ls 1 [(0, .ref mo)] := hl
  refine lv_iconst (v := 1) hx hb dX6_many_0 (by decide) ?_
  refine lv_aload_n hx hb dX6_many_1 rfl (lv_at hl 0 rfl) ?_
  refine va_get (D := D) (ci := 6) (v := .ref ms) (C := RX6) (T := TX6) (N := 11) hx hb hts hi6 hown hK hP 0 rfl rfl 0 (by decide) (hts (.fieldLink RX6 7 "SelfCheckingCircuitModel" "s" "[I") (by decide +kernel)) (fun _ h9 => h9) rfl dX6_many_2 ?_
  refine lv_iconst (v := 0) hx hb dX6_many_5 (by decide) ?_
  refine va_iald hx hb hK hP 1 1 rfl rfl (by unfold vp_in; decide) dX6_many_6 ?_
  refine hk_ti (fs 0) (congrArg fs (by decide)) ?_
  refine hk_ti (nI n) (h0) ?_
  refine lv_ishl hx hb dX6_many_7 ?_
  exact W.iret (v := ((1 : Int32) <<< (nI n &&& 31))) hx hb hr (fun tt ht hW => ⟨_, rfl, hn_pw n (by omega), ht⟩) (fun _ h => by cases h) dX6_many_8
set_option maxHeartbeats 4000000 in
set_option maxRecDepth 100000 in
theorem c6_addGate (l : Launch) (D : va_G) (g : hk_G) (ti : Nat) (sz : Nat) (mo : Nat) (ms : Nat) (mr : Nat) (mk : Nat) (mt : Nat) (mv : Nat) (me : Nat) (fs : Nat → Int32) (km : Nat) (ln : Nat) (sp : Nat) (rs : Nat) (ws : Nat) (fk : Nat → Int32) (n : Nat) (N : Nat) (o : Nat) (cd : Nat) (wt : Nat) (ty : Nat → Nat) (pa : Nat → Nat) (pb : Nat → Nat) (vo : Nat → Nat) (nm : Int64) (y : Nat) (j : Nat) (q : Int32) (hC : Cok n N o cd wt) (hM : MR n N o cd wt ty pa pb vo nm fs) (hkm : km ≤ 5) (hy : y ≤ 5) (hj : j < N) (hq : nI y = 5 ∨ hn N q = true) (hrm : N + 1 ≤ n + 24) : Met l yX6_addGate wsX6_addGate ({ frames := 2, cells := 0, slots := 0, locals := 46 }) (va_Pc [.ref mo, .int (nI y), .int (nI j), .int q] (hk_In D g ti [(mo, .inr (6, [.ref ms, .ref mr, .ref mk, .int (nI km), .ref mt, .int (nI ln), .int (nI sp), .int (nI rs), .int (nI ws), .ref mv, .ref me])), (ms, .inl (g.2.1, 147, .inl fs)), (mk, .inl (g.2.1, 735, .inl fk))] sz)) (va_Qi (S := Nat → Int32) (fun r f' => r = nI N ∧ KP fk fs f' km) (fun u => hk_Out D (va_A [(mo, .inr (6, [.ref ms, .ref mr, .ref mk, .int (nI km), .ref mt, .int (nI ln), .int (nI sp), .int (nI rs), .int (nI ws), .ref mv, .ref me])), (ms, .inl (g.2.1, 147, .inl fs)), (mk, .inl (g.2.1, 735, .inl fk))] sz) (match u with | f' => [(mo, .inr (6, [.ref ms, .ref mr, .ref mk, .int (nI (min (km + 1) 5)), .ref mt, .int (nI ln), .int (nI sp), .int (nI rs), .int (nI ws), .ref mv, .ref me])), (ms, .inl (g.2.1, 147, .inl (gU fs (N - n) (nI y) (nI j) q))), (mk, .inl (g.2.1, 735, .inl f'))])) (va_A [(mo, .inr (6, [.ref ms, .ref mr, .ref mk, .int (nI km), .ref mt, .int (nI ln), .int (nI sp), .int (nI rs), .int (nI ws), .ref mv, .ref me])), (ms, .inl (g.2.1, 147, .inl fs)), (mk, .inl (g.2.1, 735, .inl fk))] sz)) 0 0 (va_A [(mo, .inr (6, [.ref ms, .ref mr, .ref mk, .int (nI km), .ref mt, .int (nI ln), .int (nI sp), .int (nI rs), .int (nI ws), .ref mv, .ref me])), (ms, .inl (g.2.1, 147, .inl fs)), (mk, .inl (g.2.1, 735, .inl fk))] sz) := by
  refine Met.ofW (cc := cX6_addGate) (maxL := 4) (ret := (some .int)) (by decide) rfl ?_
  intro p e s m args below meth c s₁ Bd hml hv
  obtain ⟨rfl, hsz, hP, hD0, hE⟩ := hv
  have hx := Bd.exec
  have hb := Bd.bytes
  have hr := Bd.returns
  have hts := atoms_spec (ws := wsX6_addGate) Bd.pre
  have hown : s.vm.findClass RX6 = some m.cls := findClass_of_methodNamed Bd.named
  have hlocks := Bd.notSynchronized
  have hK := hE.1
  have hi6 : ∀ w ∈ wsX60, w ∈ wsX6_addGate := fun w h => List.mem_cons_of_mem _ (List.mem_append_right _ h)
  subst hsz
  have hD := hD0.self (sz := s.heap.size)
  generalize hAe : va_A [(mo, .inr (6, [.ref ms, .ref mr, .ref mk, .int (nI km), .ref mt, .int (nI ln), .int (nI sp), .int (nI rs), .int (nI ws), .ref mv, .ref me])), (ms, .inl (g.2.1, 147, .inl fs)), (mk, .inl (g.2.1, 735, .inl fk))] s.heap.size = A at hD hE ⊢
  have hA : ∀ q : Nat, s.heap.size ≤ q → A q := fun q h => by rw [← hAe]; exact Or.inr h
  have hS : va_S A s.heap s.heap [] := va_S.rf
  have hl := lv_entry ([.ref mo, .int (nI y), .int (nI j), .int q]) (n := 4) (Nat.le_of_ble_eq_true rfl)
  rw [lg_entry_eq]
  generalize (lg_sl ([.ref mo, .int (nI y), .int (nI j), .int q]) ++ List.replicate (4 - (lg_sl ([.ref mo, .int (nI y), .int (nI j), .int q])).length) Slot.unset).toArray = ls at hl ⊢
  have hl : lv_has ls 4 [(0, .ref mo), (1, .int (nI y)), (2, .int (nI j)), (3, .int q)] := hl
  refine lv_iload_n hx hb dX6_addGate_0 rfl (lv_at hl 1 rfl) ?_
  refine lv_i2l hx hb dX6_addGate_1 rfl ?_
  refine lv_lconst (v := 0) hx hb dX6_addGate_2 (by decide) ?_
  refine lv_ldc2 (own := RX6) (v := (5)) hx hb hown (hts (.constantLong RX6 98 (5)) (by decide +kernel)) dX6_addGate_3 ?_
  refine hk_csi (va_runS (As := [.long ((nI y).toInt64), .long 0, .long (5)]) (rest := []) ⟨hx, hb, hml, hown, hts⟩ (c6_in l D g ti ((nI y).toInt64) 0 (5) ) (va_cwS 3 hts gX6_addGate_X6_in rfl rfl rfl (by decide +kernel) ⟨Nat.le_of_ble_eq_true rfl, Nat.le_of_ble_eq_true rfl⟩) (hk_roS hE hP hS [] rfl) rfl rfl hl.1 rfl (lv_room (Nat.le_of_ble_eq_true rfl)) dX6_addGate_6 ⟨Nat.zero_le _, Nat.zero_le _⟩) (fun r_1 hr_2 => ?_)
  subst hr_2
  refine hk_ti (bI (hn 6 (nI y))) (by rw [inL_c 5]) ?_
  refine lv_if_eq (tgt := 33) hx hb dX6_addGate_9 (by decide) (fun c_3 => ?_) (fun c_3 => ?_)
  · have c_3h : bI (hn 6 (nI y)) = (0 : Int32) := c_3
    exact absurd (hn_t (N := 6) (j := y) (by omega) (by decide)) (by rw [bI_0.mp c_3]; decide)
  · have c_3h : ¬ bI (hn 6 (nI y)) = (0 : Int32) := c_3
    refine lv_aload_n hx hb dX6_addGate_12 rfl (lv_at hl 0 rfl) ?_
    refine lv_iload_n hx hb dX6_addGate_13 rfl (lv_at hl 2 rfl) ?_
    refine hk_csi (va_runV (As := [.int (nI j)]) (rest := []) ⟨hx, hb, hml, hown, hts⟩ (c6_isNode l D g ti mo ms mr mk mt mv me fs km ln sp rs ws n N o cd wt ty pa pb vo nm (nI j) hC hM) (cwV 1 hts gX6_addGate_X6_isNode rfl rfl rfl (by decide +kernel) ⟨Nat.le_of_ble_eq_true rfl, Nat.le_of_ble_eq_true rfl⟩) (hk_roV hE hP hS 6 rfl rfl [0, 1] rfl rfl) rfl rfl hl.1 rfl (lv_room (Nat.le_of_ble_eq_true rfl)) dX6_addGate_14 ⟨Nat.zero_le _, Nat.zero_le _⟩) (fun r_4 hr_5 => ?_)
    subst hr_5
    refine lv_if_eq (tgt := 33) hx hb dX6_addGate_17 (by decide) (fun c_6 => ?_) (fun c_6 => ?_)
    · have c_6h : (bI (hn N (nI j))) = (0 : Int32) := c_6
      exact absurd (hn_t hj (by have := hC.2.2.2.1; have := hC.2.1; omega)) (by rw [bI_0.mp c_6]; decide)
    · have c_6h : ¬ (bI (hn N (nI j))) = (0 : Int32) := c_6
      refine lv_iload_n hx hb dX6_addGate_20 rfl (lv_at hl 1 rfl) ?_
      refine lv_iconst (v := 5) hx hb dX6_addGate_21 (by decide) ?_
      refine lv_icmp_eq (tgt := 36) hx hb dX6_addGate_22 (by decide) (fun c_7 => ?_) (fun c_7 => ?_)
      · have c_7h : nI y = (5 : Int32) := c_7
        refine lv_aload_n hx hb dX6_addGate_36 rfl (lv_at hl 0 rfl) ?_
        refine va_get (D := D) (ci := 6) (v := .ref ms) (C := RX6) (T := TX6) (N := 11) hx hb hts hi6 hown hK hP 0 rfl rfl 0 (by decide) (hts (.fieldLink RX6 7 "SelfCheckingCircuitModel" "s" "[I") (by decide +kernel)) (fun _ h9 => h9) rfl dX6_addGate_37 ?_
        refine lv_iconst (v := 1) hx hb dX6_addGate_40 (by decide) ?_
        refine va_iald hx hb hK hP 1 1 rfl rfl (by unfold vp_in; decide) dX6_addGate_41 ?_
        refine hk_ti (fs 1) (congrArg fs (by decide)) ?_
        refine hk_ti (nI (N - n)) (hM.1.2.1) ?_
        refine lv_bipush (v := 24) hx hb dX6_addGate_42 (by decide) ?_
        refine lv_icmp_ne (tgt := 50) hx hb dX6_addGate_44 (by decide) (fun c_8 => ?_) (fun c_8 => ?_)
        · have c_8h : ¬ nI (N - n) = (24 : Int32) := c_8
          refine lv_aload_n hx hb dX6_addGate_50 rfl (lv_at hl 0 rfl) ?_
          refine hk_cmv (wr := []) (va_runV (As := []) (rest := []) ⟨hx, hb, hml, hown, hts⟩ (c6_keeps l D g ti _ mo ms mr mk mt mv me fs km ln sp rs ws fk hkm) (cwV 0 hts gX6_addGate_X6_keeps rfl rfl rfl (by decide +kernel) ⟨Nat.le_of_ble_eq_true rfl, Nat.le_of_ble_eq_true rfl⟩) (hk_inV hE hP hD hS hA 6 rfl rfl [0, 1, 2] (by decide) rfl rfl) rfl rfl hl.1 rfl (lv_room (Nat.le_of_ble_eq_true rfl)) dX6_addGate_51 ⟨Nat.zero_le _, Nat.zero_le _⟩) hP hD hS hA [0, 1, 2] [] rfl rfl (by decide) (by decide) (fun kf H locs hr_10 hP hD hS => ?_)
          try dsimp only at hr_10
          have hP : va_P D vwCl [(mo, .inr (6, [.ref ms, .ref mr, .ref mk, .int (nI (min (km + 1) 5)), .ref mt, .int (nI ln), .int (nI sp), .int (nI rs), .int (nI ws), .ref mv, .ref me])), (ms, .inl (g.2.1, 147, .inl fs)), (mk, .inl (g.2.1, 735, .inl kf))] H := hP
          have hD : va_D A [(mo, .inr (6, [.ref ms, .ref mr, .ref mk, .int (nI (min (km + 1) 5)), .ref mt, .int (nI ln), .int (nI sp), .int (nI rs), .int (nI ws), .ref mv, .ref me])), (ms, .inl (g.2.1, 147, .inl fs)), (mk, .inl (g.2.1, 735, .inl kf))] := hD
          refine lv_aload_n hx hb dX6_addGate_54 rfl (lv_at hl 0 rfl) ?_
          refine va_get (D := D) (ci := 6) (v := .ref ms) (C := RX6) (T := TX6) (N := 11) hx hb hts hi6 hown hK hP 0 rfl rfl 0 (by decide) (hts (.fieldLink RX6 7 "SelfCheckingCircuitModel" "s" "[I") (by decide +kernel)) (fun _ h9 => h9) rfl dX6_addGate_55 ?_
          refine lv_iload_n hx hb dX6_addGate_58 rfl (lv_at hl 1 rfl) ?_
          refine lv_iload_n hx hb dX6_addGate_59 rfl (lv_at hl 2 rfl) ?_
          refine lv_iload_n hx hb dX6_addGate_60 rfl (lv_at hl 3 rfl) ?_
          refine hk_cmv (wr := [(mo, .inr (6, [.ref ms, .ref mr, .ref mk, .int (nI (min (km + 1) 5)), .ref mt, .int (nI ln), .int (nI sp), .int (nI rs), .int (nI ws), .ref mv, .ref me])), (mk, .inl (g.2.1, 735, .inl kf))]) (va_runS (As := [.ref ms, .int (nI y), .int (nI j), .int q]) (rest := []) ⟨hx, hb, hml, hown, hts⟩ (c6_gate l D g ti _ ms fs (nI y) (nI j) q (N - n) hM.1.2.1 (by have := hC.2.2.1; omega)) (va_cwS 4 hts gX6_addGate_X6_gate rfl rfl rfl (by decide +kernel) ⟨Nat.le_of_ble_eq_true rfl, Nat.le_of_ble_eq_true rfl⟩) (hk_inS hE hP hD hS hA [1] (by decide) rfl) rfl rfl hl.1 rfl (lv_room (Nat.le_of_ble_eq_true rfl)) dX6_addGate_61 ⟨Nat.zero_le _, Nat.zero_le _⟩) hP hD hS hA [1] [0, 2] rfl rfl (by decide) (by decide) (fun _u0 H locs hr_12 hP hD hS => ?_)
          try dsimp only at hr_12
          have hP : va_P D vwCl [(mo, .inr (6, [.ref ms, .ref mr, .ref mk, .int (nI (min (km + 1) 5)), .ref mt, .int (nI ln), .int (nI sp), .int (nI rs), .int (nI ws), .ref mv, .ref me])), (mk, .inl (g.2.1, 735, .inl kf)), (ms, .inl (g.2.1, 147, .inl (gU fs (N - n) (nI y) (nI j) q)))] H := hP
          have hD : va_D A [(mo, .inr (6, [.ref ms, .ref mr, .ref mk, .int (nI (min (km + 1) 5)), .ref mt, .int (nI ln), .int (nI sp), .int (nI rs), .int (nI ws), .ref mv, .ref me])), (mk, .inl (g.2.1, 735, .inl kf)), (ms, .inl (g.2.1, 147, .inl (gU fs (N - n) (nI y) (nI j) q)))] := hD
          refine lv_aload_n hx hb dX6_addGate_64 rfl (lv_at hl 0 rfl) ?_
          refine va_get (D := D) (ci := 6) (v := .ref ms) (C := RX6) (T := TX6) (N := 11) hx hb hts hi6 hown hK hP 0 rfl rfl 0 (by decide) (hts (.fieldLink RX6 7 "SelfCheckingCircuitModel" "s" "[I") (by decide +kernel)) (fun _ h9 => h9) rfl dX6_addGate_65 ?_
          refine hk_csi (va_runS (As := [.ref ms]) (rest := []) ⟨hx, hb, hml, hown, hts⟩ (c6_nodesOf l D g ti ms (gU fs (N - n) (nI y) (nI j) q) ) (va_cwS 1 hts gX6_addGate_X6_nodesOf rfl rfl rfl (by decide +kernel) ⟨Nat.le_of_ble_eq_true rfl, Nat.le_of_ble_eq_true rfl⟩) (hk_roS hE hP hS [2] rfl) rfl rfl hl.1 rfl (lv_room (Nat.le_of_ble_eq_true rfl)) dX6_addGate_68 ⟨Nat.zero_le _, Nat.zero_le _⟩) (fun r_13 hr_14 => ?_)
          subst hr_14
          refine hk_ti (nI (N + 1)) (by rw [gU_0, gU_1, hM.1.1, nI_add]; congr 1; have := hC.2.2.1; omega) ?_
          refine lv_iconst (v := 1) hx hb dX6_addGate_71 (by decide) ?_
          refine lv_isub hx hb dX6_addGate_72 ?_
          refine hk_ti (nI N) (nI_pred N) ?_
          have hP9 := hP.sub (ws' := [(mo, .inr (6, [.ref ms, .ref mr, .ref mk, .int (nI (min (km + 1) 5)), .ref mt, .int (nI ln), .int (nI sp), .int (nI rs), .int (nI ws), .ref mv, .ref me])), (ms, .inl (g.2.1, 147, .inl (gU fs (N - n) (nI y) (nI j) q))), (mk, .inl (g.2.1, 735, .inl kf))]) [0, 2, 1] rfl
          have hD9 := hD.sub (ws' := [(mo, .inr (6, [.ref ms, .ref mr, .ref mk, .int (nI (min (km + 1) 5)), .ref mt, .int (nI ln), .int (nI sp), .int (nI rs), .int (nI ws), .ref mv, .ref me])), (ms, .inl (g.2.1, 147, .inl (gU fs (N - n) (nI y) (nI j) q))), (mk, .inl (g.2.1, 735, .inl kf))]) [0, 2, 1] (by decide) rfl
          exact W.iret (v := nI N) hx hb hr (fun tt ht hW => ⟨⟨_, kf, rfl, ⟨rfl, hr_10⟩, by rw [ht]; exact hP9, hD9⟩, hS.F ht⟩) hS.2.2 dX6_addGate_73
        · have c_8h : nI (N - n) = (24 : Int32) := c_8
          exact absurd (nI_inj (b := 24) c_8 (by have := hC.2.2.2.1; have := hC.2.1; omega) (by decide)) (by have := hC.2.2.1; omega)
      · have c_7h : ¬ nI y = (5 : Int32) := c_7
        refine lv_aload_n hx hb dX6_addGate_25 rfl (lv_at hl 0 rfl) ?_
        refine lv_iload_n hx hb dX6_addGate_26 rfl (lv_at hl 3 rfl) ?_
        refine hk_csi (va_runV (As := [.int q]) (rest := []) ⟨hx, hb, hml, hown, hts⟩ (c6_isNode l D g ti mo ms mr mk mt mv me fs km ln sp rs ws n N o cd wt ty pa pb vo nm q hC hM) (cwV 1 hts gX6_addGate_X6_isNode rfl rfl rfl (by decide +kernel) ⟨Nat.le_of_ble_eq_true rfl, Nat.le_of_ble_eq_true rfl⟩) (hk_roV hE hP hS 6 rfl rfl [0, 1] rfl rfl) rfl rfl hl.1 rfl (lv_room (Nat.le_of_ble_eq_true rfl)) dX6_addGate_27 ⟨Nat.zero_le _, Nat.zero_le _⟩) (fun r_15 hr_16 => ?_)
        subst hr_16
        refine lv_if_ne (tgt := 36) hx hb dX6_addGate_30 (by decide) (fun c_17 => ?_) (fun c_17 => ?_)
        · have c_17h : ¬ (bI (hn N q)) = (0 : Int32) := c_17
          refine lv_aload_n hx hb dX6_addGate_36 rfl (lv_at hl 0 rfl) ?_
          refine va_get (D := D) (ci := 6) (v := .ref ms) (C := RX6) (T := TX6) (N := 11) hx hb hts hi6 hown hK hP 0 rfl rfl 0 (by decide) (hts (.fieldLink RX6 7 "SelfCheckingCircuitModel" "s" "[I") (by decide +kernel)) (fun _ h9 => h9) rfl dX6_addGate_37 ?_
          refine lv_iconst (v := 1) hx hb dX6_addGate_40 (by decide) ?_
          refine va_iald hx hb hK hP 1 1 rfl rfl (by unfold vp_in; decide) dX6_addGate_41 ?_
          refine hk_ti (fs 1) (congrArg fs (by decide)) ?_
          refine hk_ti (nI (N - n)) (hM.1.2.1) ?_
          refine lv_bipush (v := 24) hx hb dX6_addGate_42 (by decide) ?_
          refine lv_icmp_ne (tgt := 50) hx hb dX6_addGate_44 (by decide) (fun c_18 => ?_) (fun c_18 => ?_)
          · have c_18h : ¬ nI (N - n) = (24 : Int32) := c_18
            refine lv_aload_n hx hb dX6_addGate_50 rfl (lv_at hl 0 rfl) ?_
            refine hk_cmv (wr := []) (va_runV (As := []) (rest := []) ⟨hx, hb, hml, hown, hts⟩ (c6_keeps l D g ti _ mo ms mr mk mt mv me fs km ln sp rs ws fk hkm) (cwV 0 hts gX6_addGate_X6_keeps rfl rfl rfl (by decide +kernel) ⟨Nat.le_of_ble_eq_true rfl, Nat.le_of_ble_eq_true rfl⟩) (hk_inV hE hP hD hS hA 6 rfl rfl [0, 1, 2] (by decide) rfl rfl) rfl rfl hl.1 rfl (lv_room (Nat.le_of_ble_eq_true rfl)) dX6_addGate_51 ⟨Nat.zero_le _, Nat.zero_le _⟩) hP hD hS hA [0, 1, 2] [] rfl rfl (by decide) (by decide) (fun kf H locs hr_20 hP hD hS => ?_)
            try dsimp only at hr_20
            have hP : va_P D vwCl [(mo, .inr (6, [.ref ms, .ref mr, .ref mk, .int (nI (min (km + 1) 5)), .ref mt, .int (nI ln), .int (nI sp), .int (nI rs), .int (nI ws), .ref mv, .ref me])), (ms, .inl (g.2.1, 147, .inl fs)), (mk, .inl (g.2.1, 735, .inl kf))] H := hP
            have hD : va_D A [(mo, .inr (6, [.ref ms, .ref mr, .ref mk, .int (nI (min (km + 1) 5)), .ref mt, .int (nI ln), .int (nI sp), .int (nI rs), .int (nI ws), .ref mv, .ref me])), (ms, .inl (g.2.1, 147, .inl fs)), (mk, .inl (g.2.1, 735, .inl kf))] := hD
            refine lv_aload_n hx hb dX6_addGate_54 rfl (lv_at hl 0 rfl) ?_
            refine va_get (D := D) (ci := 6) (v := .ref ms) (C := RX6) (T := TX6) (N := 11) hx hb hts hi6 hown hK hP 0 rfl rfl 0 (by decide) (hts (.fieldLink RX6 7 "SelfCheckingCircuitModel" "s" "[I") (by decide +kernel)) (fun _ h9 => h9) rfl dX6_addGate_55 ?_
            refine lv_iload_n hx hb dX6_addGate_58 rfl (lv_at hl 1 rfl) ?_
            refine lv_iload_n hx hb dX6_addGate_59 rfl (lv_at hl 2 rfl) ?_
            refine lv_iload_n hx hb dX6_addGate_60 rfl (lv_at hl 3 rfl) ?_
            refine hk_cmv (wr := [(mo, .inr (6, [.ref ms, .ref mr, .ref mk, .int (nI (min (km + 1) 5)), .ref mt, .int (nI ln), .int (nI sp), .int (nI rs), .int (nI ws), .ref mv, .ref me])), (mk, .inl (g.2.1, 735, .inl kf))]) (va_runS (As := [.ref ms, .int (nI y), .int (nI j), .int q]) (rest := []) ⟨hx, hb, hml, hown, hts⟩ (c6_gate l D g ti _ ms fs (nI y) (nI j) q (N - n) hM.1.2.1 (by have := hC.2.2.1; omega)) (va_cwS 4 hts gX6_addGate_X6_gate rfl rfl rfl (by decide +kernel) ⟨Nat.le_of_ble_eq_true rfl, Nat.le_of_ble_eq_true rfl⟩) (hk_inS hE hP hD hS hA [1] (by decide) rfl) rfl rfl hl.1 rfl (lv_room (Nat.le_of_ble_eq_true rfl)) dX6_addGate_61 ⟨Nat.zero_le _, Nat.zero_le _⟩) hP hD hS hA [1] [0, 2] rfl rfl (by decide) (by decide) (fun _u0 H locs hr_22 hP hD hS => ?_)
            try dsimp only at hr_22
            have hP : va_P D vwCl [(mo, .inr (6, [.ref ms, .ref mr, .ref mk, .int (nI (min (km + 1) 5)), .ref mt, .int (nI ln), .int (nI sp), .int (nI rs), .int (nI ws), .ref mv, .ref me])), (mk, .inl (g.2.1, 735, .inl kf)), (ms, .inl (g.2.1, 147, .inl (gU fs (N - n) (nI y) (nI j) q)))] H := hP
            have hD : va_D A [(mo, .inr (6, [.ref ms, .ref mr, .ref mk, .int (nI (min (km + 1) 5)), .ref mt, .int (nI ln), .int (nI sp), .int (nI rs), .int (nI ws), .ref mv, .ref me])), (mk, .inl (g.2.1, 735, .inl kf)), (ms, .inl (g.2.1, 147, .inl (gU fs (N - n) (nI y) (nI j) q)))] := hD
            refine lv_aload_n hx hb dX6_addGate_64 rfl (lv_at hl 0 rfl) ?_
            refine va_get (D := D) (ci := 6) (v := .ref ms) (C := RX6) (T := TX6) (N := 11) hx hb hts hi6 hown hK hP 0 rfl rfl 0 (by decide) (hts (.fieldLink RX6 7 "SelfCheckingCircuitModel" "s" "[I") (by decide +kernel)) (fun _ h9 => h9) rfl dX6_addGate_65 ?_
            refine hk_csi (va_runS (As := [.ref ms]) (rest := []) ⟨hx, hb, hml, hown, hts⟩ (c6_nodesOf l D g ti ms (gU fs (N - n) (nI y) (nI j) q) ) (va_cwS 1 hts gX6_addGate_X6_nodesOf rfl rfl rfl (by decide +kernel) ⟨Nat.le_of_ble_eq_true rfl, Nat.le_of_ble_eq_true rfl⟩) (hk_roS hE hP hS [2] rfl) rfl rfl hl.1 rfl (lv_room (Nat.le_of_ble_eq_true rfl)) dX6_addGate_68 ⟨Nat.zero_le _, Nat.zero_le _⟩) (fun r_23 hr_24 => ?_)
            subst hr_24
            refine hk_ti (nI (N + 1)) (by rw [gU_0, gU_1, hM.1.1, nI_add]; congr 1; have := hC.2.2.1; omega) ?_
            refine lv_iconst (v := 1) hx hb dX6_addGate_71 (by decide) ?_
            refine lv_isub hx hb dX6_addGate_72 ?_
            refine hk_ti (nI N) (nI_pred N) ?_
            have hP9 := hP.sub (ws' := [(mo, .inr (6, [.ref ms, .ref mr, .ref mk, .int (nI (min (km + 1) 5)), .ref mt, .int (nI ln), .int (nI sp), .int (nI rs), .int (nI ws), .ref mv, .ref me])), (ms, .inl (g.2.1, 147, .inl (gU fs (N - n) (nI y) (nI j) q))), (mk, .inl (g.2.1, 735, .inl kf))]) [0, 2, 1] rfl
            have hD9 := hD.sub (ws' := [(mo, .inr (6, [.ref ms, .ref mr, .ref mk, .int (nI (min (km + 1) 5)), .ref mt, .int (nI ln), .int (nI sp), .int (nI rs), .int (nI ws), .ref mv, .ref me])), (ms, .inl (g.2.1, 147, .inl (gU fs (N - n) (nI y) (nI j) q))), (mk, .inl (g.2.1, 735, .inl kf))]) [0, 2, 1] (by decide) rfl
            exact W.iret (v := nI N) hx hb hr (fun tt ht hW => ⟨⟨_, kf, rfl, ⟨rfl, hr_20⟩, by rw [ht]; exact hP9, hD9⟩, hS.F ht⟩) hS.2.2 dX6_addGate_73
          · have c_18h : nI (N - n) = (24 : Int32) := c_18
            exact absurd (nI_inj (b := 24) c_18 (by have := hC.2.2.2.1; have := hC.2.1; omega) (by decide)) (by have := hC.2.2.1; omega)
        · have c_17h : (bI (hn N q)) = (0 : Int32) := c_17
          exact absurd (hq.resolve_left c_7) (by rw [bI_0.mp c_17]; decide)
set_option maxHeartbeats 4000000 in
set_option maxRecDepth 100000 in
theorem c6_addGate_no (l : Launch) (D : va_G) (g : hk_G) (ti : Nat) (mo : Nat) (ms : Nat) (mr : Nat) (mk : Nat) (mt : Nat) (mv : Nat) (me : Nat) (fs : Nat → Int32) (km : Nat) (ln : Nat) (sp : Nat) (rs : Nat) (ws : Nat) (n : Nat) (N : Nat) (o : Nat) (cd : Nat) (wt : Nat) (ty : Nat → Nat) (pa : Nat → Nat) (pb : Nat → Nat) (vo : Nat → Nat) (nm : Int64) (y : Int32) (p1 : Int32) (q : Int32) (hC : Cok n N o cd wt) (hM : MR n N o cd wt ty pa pb vo nm fs) (hno : agA N y p1 q = false ∨ ¬ (N + 1 ≤ n + 24)) : Met l yX6_addGate wsX6_addGate ({ frames := 2, cells := 0, slots := 0, locals := 46 }) (va_Pc [.ref mo, .int y, .int p1, .int q] (hk_Ro D g ti [(mo, .inr (6, [.ref ms, .ref mr, .ref mk, .int (nI km), .ref mt, .int (nI ln), .int (nI sp), .int (nI rs), .int (nI ws), .ref mv, .ref me])), (ms, .inl (g.2.1, 147, .inl fs))])) (vp_Si (fun r => r = if agA N y p1 q = true then -103 else -101)) 0 0 (fun _ => False) := by
  refine Met.ofW (cc := cX6_addGate) (maxL := 4) (ret := (some .int)) (by decide) rfl ?_
  intro p e s m args below meth c s₁ Bd hml hv
  obtain ⟨rfl, hP, hE⟩ := hv
  have hx := Bd.exec
  have hb := Bd.bytes
  have hr := Bd.returns
  have hts := atoms_spec (ws := wsX6_addGate) Bd.pre
  have hown : s.vm.findClass RX6 = some m.cls := findClass_of_methodNamed Bd.named
  have hlocks := Bd.notSynchronized
  have hK := hE.1
  have hi6 : ∀ w ∈ wsX60, w ∈ wsX6_addGate := fun w h => List.mem_cons_of_mem _ (List.mem_append_right _ h)
  have hS : va_S (fun _ => False) s.heap s.heap [] := va_S.rf
  have hl := lv_entry ([.ref mo, .int y, .int p1, .int q]) (n := 4) (Nat.le_of_ble_eq_true rfl)
  rw [lg_entry_eq]
  generalize (lg_sl ([.ref mo, .int y, .int p1, .int q]) ++ List.replicate (4 - (lg_sl ([.ref mo, .int y, .int p1, .int q])).length) Slot.unset).toArray = ls at hl ⊢
  have hl : lv_has ls 4 [(0, .ref mo), (1, .int y), (2, .int p1), (3, .int q)] := hl
  refine lv_iload_n hx hb dX6_addGate_0 rfl (lv_at hl 1 rfl) ?_
  refine lv_i2l hx hb dX6_addGate_1 rfl ?_
  refine lv_lconst (v := 0) hx hb dX6_addGate_2 (by decide) ?_
  refine lv_ldc2 (own := RX6) (v := (5)) hx hb hown (hts (.constantLong RX6 98 (5)) (by decide +kernel)) dX6_addGate_3 ?_
  refine hk_csi (va_runS (As := [.long y.toInt64, .long 0, .long (5)]) (rest := []) ⟨hx, hb, hml, hown, hts⟩ (c6_in l D g ti y.toInt64 0 (5) ) (va_cwS 3 hts gX6_addGate_X6_in rfl rfl rfl (by decide +kernel) ⟨Nat.le_of_ble_eq_true rfl, Nat.le_of_ble_eq_true rfl⟩) (hk_roS hE hP hS [] rfl) rfl rfl hl.1 rfl (lv_room (Nat.le_of_ble_eq_true rfl)) dX6_addGate_6 ⟨Nat.zero_le _, Nat.zero_le _⟩) (fun r_1 hr_2 => ?_)
  subst hr_2
  refine hk_ti (bI (hn 6 y)) (by rw [inL_c 5]) ?_
  refine lv_if_eq (tgt := 33) hx hb dX6_addGate_9 (by decide) (fun c_3 => ?_) (fun c_3 => ?_)
  · have c_3h : bI (hn 6 y) = (0 : Int32) := c_3
    refine lv_bipush (v := (-101)) hx hb dX6_addGate_33 (by decide) ?_
    exact W.iret (v := (-101)) hx hb hr (fun tt ht hW => ⟨_, rfl, by rw [if_neg (by unfold agA; rw [bI_0.mp c_3]; simp)], ht⟩) (fun _ h => by cases h) dX6_addGate_35
  · have c_3h : ¬ bI (hn 6 y) = (0 : Int32) := c_3
    refine lv_aload_n hx hb dX6_addGate_12 rfl (lv_at hl 0 rfl) ?_
    refine lv_iload_n hx hb dX6_addGate_13 rfl (lv_at hl 2 rfl) ?_
    refine hk_csi (va_runV (As := [.int p1]) (rest := []) ⟨hx, hb, hml, hown, hts⟩ (c6_isNode l D g ti mo ms mr mk mt mv me fs km ln sp rs ws n N o cd wt ty pa pb vo nm p1 hC hM) (cwV 1 hts gX6_addGate_X6_isNode rfl rfl rfl (by decide +kernel) ⟨Nat.le_of_ble_eq_true rfl, Nat.le_of_ble_eq_true rfl⟩) (hk_roV hE hP hS 6 rfl rfl [0, 1] rfl rfl) rfl rfl hl.1 rfl (lv_room (Nat.le_of_ble_eq_true rfl)) dX6_addGate_14 ⟨Nat.zero_le _, Nat.zero_le _⟩) (fun r_4 hr_5 => ?_)
    subst hr_5
    refine lv_if_eq (tgt := 33) hx hb dX6_addGate_17 (by decide) (fun c_6 => ?_) (fun c_6 => ?_)
    · have c_6h : (bI (hn N p1)) = (0 : Int32) := c_6
      refine lv_bipush (v := (-101)) hx hb dX6_addGate_33 (by decide) ?_
      exact W.iret (v := (-101)) hx hb hr (fun tt ht hW => ⟨_, rfl, by rw [if_neg (by unfold agA; rw [bI_0.mp c_6]; simp)], ht⟩) (fun _ h => by cases h) dX6_addGate_35
    · have c_6h : ¬ (bI (hn N p1)) = (0 : Int32) := c_6
      refine lv_iload_n hx hb dX6_addGate_20 rfl (lv_at hl 1 rfl) ?_
      refine lv_iconst (v := 5) hx hb dX6_addGate_21 (by decide) ?_
      refine lv_icmp_eq (tgt := 36) hx hb dX6_addGate_22 (by decide) (fun c_7 => ?_) (fun c_7 => ?_)
      · have c_7h : y = (5 : Int32) := c_7
        refine lv_aload_n hx hb dX6_addGate_36 rfl (lv_at hl 0 rfl) ?_
        refine va_get (D := D) (ci := 6) (v := .ref ms) (C := RX6) (T := TX6) (N := 11) hx hb hts hi6 hown hK hP 0 rfl rfl 0 (by decide) (hts (.fieldLink RX6 7 "SelfCheckingCircuitModel" "s" "[I") (by decide +kernel)) (fun _ h9 => h9) rfl dX6_addGate_37 ?_
        refine lv_iconst (v := 1) hx hb dX6_addGate_40 (by decide) ?_
        refine va_iald hx hb hK hP 1 1 rfl rfl (by unfold vp_in; decide) dX6_addGate_41 ?_
        refine hk_ti (fs 1) (congrArg fs (by decide)) ?_
        refine hk_ti (nI (N - n)) (hM.1.2.1) ?_
        refine lv_bipush (v := 24) hx hb dX6_addGate_42 (by decide) ?_
        refine lv_icmp_ne (tgt := 50) hx hb dX6_addGate_44 (by decide) (fun c_8 => ?_) (fun c_8 => ?_)
        · have c_8h : ¬ nI (N - n) = (24 : Int32) := c_8
          exact absurd (by rw [show N - n = 24 by have := hno.resolve_left (by unfold agA; rw [bI_n0 c_3, bI_n0 c_6, decide_eq_true c_7]; simp); have := hC.2.2.2.1; omega]; rfl) c_8
        · have c_8h : nI (N - n) = (24 : Int32) := c_8
          refine lv_bipush (v := (-103)) hx hb dX6_addGate_47 (by decide) ?_
          exact W.iret (v := (-103)) hx hb hr (fun tt ht hW => ⟨_, rfl, by rw [if_pos (by unfold agA; rw [bI_n0 c_3, bI_n0 c_6, decide_eq_true c_7]; rfl)], ht⟩) (fun _ h => by cases h) dX6_addGate_49
      · have c_7h : ¬ y = (5 : Int32) := c_7
        refine lv_aload_n hx hb dX6_addGate_25 rfl (lv_at hl 0 rfl) ?_
        refine lv_iload_n hx hb dX6_addGate_26 rfl (lv_at hl 3 rfl) ?_
        refine hk_csi (va_runV (As := [.int q]) (rest := []) ⟨hx, hb, hml, hown, hts⟩ (c6_isNode l D g ti mo ms mr mk mt mv me fs km ln sp rs ws n N o cd wt ty pa pb vo nm q hC hM) (cwV 1 hts gX6_addGate_X6_isNode rfl rfl rfl (by decide +kernel) ⟨Nat.le_of_ble_eq_true rfl, Nat.le_of_ble_eq_true rfl⟩) (hk_roV hE hP hS 6 rfl rfl [0, 1] rfl rfl) rfl rfl hl.1 rfl (lv_room (Nat.le_of_ble_eq_true rfl)) dX6_addGate_27 ⟨Nat.zero_le _, Nat.zero_le _⟩) (fun r_9 hr_10 => ?_)
        subst hr_10
        refine lv_if_ne (tgt := 36) hx hb dX6_addGate_30 (by decide) (fun c_11 => ?_) (fun c_11 => ?_)
        · have c_11h : ¬ (bI (hn N q)) = (0 : Int32) := c_11
          refine lv_aload_n hx hb dX6_addGate_36 rfl (lv_at hl 0 rfl) ?_
          refine va_get (D := D) (ci := 6) (v := .ref ms) (C := RX6) (T := TX6) (N := 11) hx hb hts hi6 hown hK hP 0 rfl rfl 0 (by decide) (hts (.fieldLink RX6 7 "SelfCheckingCircuitModel" "s" "[I") (by decide +kernel)) (fun _ h9 => h9) rfl dX6_addGate_37 ?_
          refine lv_iconst (v := 1) hx hb dX6_addGate_40 (by decide) ?_
          refine va_iald hx hb hK hP 1 1 rfl rfl (by unfold vp_in; decide) dX6_addGate_41 ?_
          refine hk_ti (fs 1) (congrArg fs (by decide)) ?_
          refine hk_ti (nI (N - n)) (hM.1.2.1) ?_
          refine lv_bipush (v := 24) hx hb dX6_addGate_42 (by decide) ?_
          refine lv_icmp_ne (tgt := 50) hx hb dX6_addGate_44 (by decide) (fun c_12 => ?_) (fun c_12 => ?_)
          · have c_12h : ¬ nI (N - n) = (24 : Int32) := c_12
            exact absurd (by rw [show N - n = 24 by have := hno.resolve_left (by unfold agA; rw [bI_n0 c_3, bI_n0 c_6, bI_n0 c_11]; simp); have := hC.2.2.2.1; omega]; rfl) c_12
          · have c_12h : nI (N - n) = (24 : Int32) := c_12
            refine lv_bipush (v := (-103)) hx hb dX6_addGate_47 (by decide) ?_
            exact W.iret (v := (-103)) hx hb hr (fun tt ht hW => ⟨_, rfl, by rw [if_pos (by unfold agA; rw [bI_n0 c_3, bI_n0 c_6, bI_n0 c_11]; simp)], ht⟩) (fun _ h => by cases h) dX6_addGate_49
        · have c_11h : (bI (hn N q)) = (0 : Int32) := c_11
          refine lv_bipush (v := (-101)) hx hb dX6_addGate_33 (by decide) ?_
          exact W.iret (v := (-101)) hx hb hr (fun tt ht hW => ⟨_, rfl, by rw [if_neg (by unfold agA; rw [bI_0.mp c_11, decide_eq_false c_7]; simp)], ht⟩) (fun _ h => by cases h) dX6_addGate_35
set_option maxHeartbeats 4000000 in
set_option maxRecDepth 100000 in
theorem c6_addComparator (l : Launch) (D : va_G) (g : hk_G) (ti : Nat) (sz : Nat) (mo : Nat) (ms : Nat) (mr : Nat) (mk : Nat) (mt : Nat) (mv : Nat) (me : Nat) (fs : Nat → Int32) (km : Nat) (ln : Nat) (sp : Nat) (rs : Nat) (ws : Nat) (fk : Nat → Int32) (n : Nat) (N : Nat) (o : Nat) (cd : Nat) (wt : Nat) (ty : Nat → Nat) (pa : Nat → Nat) (pb : Nat → Nat) (vo : Nat → Nat) (nm : Int64) (j1 : Nat) (j2 : Nat) (hC : Cok n N o cd wt) (hM : MR n N o cd wt ty pa pb vo nm fs) (hkm : km ≤ 5) (hj1 : j1 < N) (hj2 : j2 < N) (hrm : N + 2 ≤ n + 24) : Met l yX6_addComparator wsX6_addComparator ({ frames := 2, cells := 0, slots := 0, locals := 46 }) (va_Pc [.ref mo, .int (nI j1), .int (nI j2)] (hk_In D g ti [(mo, .inr (6, [.ref ms, .ref mr, .ref mk, .int (nI km), .ref mt, .int (nI ln), .int (nI sp), .int (nI rs), .int (nI ws), .ref mv, .ref me])), (ms, .inl (g.2.1, 147, .inl fs)), (mk, .inl (g.2.1, 735, .inl fk))] sz)) (va_Qi (S := Nat → Int32) (fun r f' => r = nI (N + 1) ∧ KP fk fs f' km) (fun u => hk_Out D (va_A [(mo, .inr (6, [.ref ms, .ref mr, .ref mk, .int (nI km), .ref mt, .int (nI ln), .int (nI sp), .int (nI rs), .int (nI ws), .ref mv, .ref me])), (ms, .inl (g.2.1, 147, .inl fs)), (mk, .inl (g.2.1, 735, .inl fk))] sz) (match u with | f' => [(mo, .inr (6, [.ref ms, .ref mr, .ref mk, .int (nI (min (km + 1) 5)), .ref mt, .int (nI ln), .int (nI sp), .int (nI rs), .int (nI ws), .ref mv, .ref me])), (ms, .inl (g.2.1, 147, .inl (gU (gU fs (N - n) 1 (nI j1) (nI j2)) ((N - n) + 1) 0 (nI j1) (nI j2)))), (mk, .inl (g.2.1, 735, .inl f'))])) (va_A [(mo, .inr (6, [.ref ms, .ref mr, .ref mk, .int (nI km), .ref mt, .int (nI ln), .int (nI sp), .int (nI rs), .int (nI ws), .ref mv, .ref me])), (ms, .inl (g.2.1, 147, .inl fs)), (mk, .inl (g.2.1, 735, .inl fk))] sz)) 0 0 (va_A [(mo, .inr (6, [.ref ms, .ref mr, .ref mk, .int (nI km), .ref mt, .int (nI ln), .int (nI sp), .int (nI rs), .int (nI ws), .ref mv, .ref me])), (ms, .inl (g.2.1, 147, .inl fs)), (mk, .inl (g.2.1, 735, .inl fk))] sz) := by
  refine Met.ofW (cc := cX6_addComparator) (maxL := 3) (ret := (some .int)) (by decide) rfl ?_
  intro p e s m args below meth c s₁ Bd hml hv
  obtain ⟨rfl, hsz, hP, hD0, hE⟩ := hv
  have hx := Bd.exec
  have hb := Bd.bytes
  have hr := Bd.returns
  have hts := atoms_spec (ws := wsX6_addComparator) Bd.pre
  have hown : s.vm.findClass RX6 = some m.cls := findClass_of_methodNamed Bd.named
  have hlocks := Bd.notSynchronized
  have hK := hE.1
  have hi6 : ∀ w ∈ wsX60, w ∈ wsX6_addComparator := fun w h => List.mem_cons_of_mem _ (List.mem_append_right _ h)
  subst hsz
  have hD := hD0.self (sz := s.heap.size)
  generalize hAe : va_A [(mo, .inr (6, [.ref ms, .ref mr, .ref mk, .int (nI km), .ref mt, .int (nI ln), .int (nI sp), .int (nI rs), .int (nI ws), .ref mv, .ref me])), (ms, .inl (g.2.1, 147, .inl fs)), (mk, .inl (g.2.1, 735, .inl fk))] s.heap.size = A at hD hE ⊢
  have hA : ∀ q : Nat, s.heap.size ≤ q → A q := fun q h => by rw [← hAe]; exact Or.inr h
  have hS : va_S A s.heap s.heap [] := va_S.rf
  have hl := lv_entry ([.ref mo, .int (nI j1), .int (nI j2)]) (n := 3) (Nat.le_of_ble_eq_true rfl)
  rw [lg_entry_eq]
  generalize (lg_sl ([.ref mo, .int (nI j1), .int (nI j2)]) ++ List.replicate (3 - (lg_sl ([.ref mo, .int (nI j1), .int (nI j2)])).length) Slot.unset).toArray = ls at hl ⊢
  have hl : lv_has ls 3 [(0, .ref mo), (1, .int (nI j1)), (2, .int (nI j2))] := hl
  refine lv_aload_n hx hb dX6_addComparator_0 rfl (lv_at hl 0 rfl) ?_
  refine lv_iload_n hx hb dX6_addComparator_1 rfl (lv_at hl 1 rfl) ?_
  refine hk_csi (va_runV (As := [.int (nI j1)]) (rest := []) ⟨hx, hb, hml, hown, hts⟩ (c6_isNode l D g ti mo ms mr mk mt mv me fs km ln sp rs ws n N o cd wt ty pa pb vo nm (nI j1) hC hM) (cwV 1 hts gX6_addComparator_X6_isNode rfl rfl rfl (by decide +kernel) ⟨Nat.le_of_ble_eq_true rfl, Nat.le_of_ble_eq_true rfl⟩) (hk_roV hE hP hS 6 rfl rfl [0, 1] rfl rfl) rfl rfl hl.1 rfl (lv_room (Nat.le_of_ble_eq_true rfl)) dX6_addComparator_2 ⟨Nat.zero_le _, Nat.zero_le _⟩) (fun r_1 hr_2 => ?_)
  subst hr_2
  refine lv_if_eq (tgt := 16) hx hb dX6_addComparator_5 (by decide) (fun c_3 => ?_) (fun c_3 => ?_)
  · have c_3h : (bI (hn N (nI j1))) = (0 : Int32) := c_3
    exact absurd (hn_t hj1 (by have := hC.2.2.2.1; have := hC.2.1; omega)) (by rw [bI_0.mp c_3]; decide)
  · have c_3h : ¬ (bI (hn N (nI j1))) = (0 : Int32) := c_3
    refine lv_aload_n hx hb dX6_addComparator_8 rfl (lv_at hl 0 rfl) ?_
    refine lv_iload_n hx hb dX6_addComparator_9 rfl (lv_at hl 2 rfl) ?_
    refine hk_csi (va_runV (As := [.int (nI j2)]) (rest := []) ⟨hx, hb, hml, hown, hts⟩ (c6_isNode l D g ti mo ms mr mk mt mv me fs km ln sp rs ws n N o cd wt ty pa pb vo nm (nI j2) hC hM) (cwV 1 hts gX6_addComparator_X6_isNode rfl rfl rfl (by decide +kernel) ⟨Nat.le_of_ble_eq_true rfl, Nat.le_of_ble_eq_true rfl⟩) (hk_roV hE hP hS 6 rfl rfl [0, 1] rfl rfl) rfl rfl hl.1 rfl (lv_room (Nat.le_of_ble_eq_true rfl)) dX6_addComparator_10 ⟨Nat.zero_le _, Nat.zero_le _⟩) (fun r_4 hr_5 => ?_)
    subst hr_5
    refine lv_if_ne (tgt := 19) hx hb dX6_addComparator_13 (by decide) (fun c_6 => ?_) (fun c_6 => ?_)
    · have c_6h : ¬ (bI (hn N (nI j2))) = (0 : Int32) := c_6
      refine lv_aload_n hx hb dX6_addComparator_19 rfl (lv_at hl 0 rfl) ?_
      refine va_get (D := D) (ci := 6) (v := .ref ms) (C := RX6) (T := TX6) (N := 11) hx hb hts hi6 hown hK hP 0 rfl rfl 0 (by decide) (hts (.fieldLink RX6 7 "SelfCheckingCircuitModel" "s" "[I") (by decide +kernel)) (fun _ h9 => h9) rfl dX6_addComparator_20 ?_
      refine lv_iconst (v := 1) hx hb dX6_addComparator_23 (by decide) ?_
      refine va_iald hx hb hK hP 1 1 rfl rfl (by unfold vp_in; decide) dX6_addComparator_24 ?_
      refine hk_ti (fs 1) (congrArg fs (by decide)) ?_
      refine hk_ti (nI (N - n)) (hM.1.2.1) ?_
      refine lv_bipush (v := 22) hx hb dX6_addComparator_25 (by decide) ?_
      refine lv_icmp_le (tgt := 33) hx hb dX6_addComparator_27 (by decide) (fun c_7 => ?_) (fun c_7 => ?_)
      · have c_7h : nI (N - n) ≤ (22 : Int32) := c_7
        refine lv_aload_n hx hb dX6_addComparator_33 rfl (lv_at hl 0 rfl) ?_
        refine hk_cmv (wr := []) (va_runV (As := []) (rest := []) ⟨hx, hb, hml, hown, hts⟩ (c6_keeps l D g ti _ mo ms mr mk mt mv me fs km ln sp rs ws fk hkm) (cwV 0 hts gX6_addComparator_X6_keeps rfl rfl rfl (by decide +kernel) ⟨Nat.le_of_ble_eq_true rfl, Nat.le_of_ble_eq_true rfl⟩) (hk_inV hE hP hD hS hA 6 rfl rfl [0, 1, 2] (by decide) rfl rfl) rfl rfl hl.1 rfl (lv_room (Nat.le_of_ble_eq_true rfl)) dX6_addComparator_34 ⟨Nat.zero_le _, Nat.zero_le _⟩) hP hD hS hA [0, 1, 2] [] rfl rfl (by decide) (by decide) (fun kf H locs hr_9 hP hD hS => ?_)
        try dsimp only at hr_9
        have hP : va_P D vwCl [(mo, .inr (6, [.ref ms, .ref mr, .ref mk, .int (nI (min (km + 1) 5)), .ref mt, .int (nI ln), .int (nI sp), .int (nI rs), .int (nI ws), .ref mv, .ref me])), (ms, .inl (g.2.1, 147, .inl fs)), (mk, .inl (g.2.1, 735, .inl kf))] H := hP
        have hD : va_D A [(mo, .inr (6, [.ref ms, .ref mr, .ref mk, .int (nI (min (km + 1) 5)), .ref mt, .int (nI ln), .int (nI sp), .int (nI rs), .int (nI ws), .ref mv, .ref me])), (ms, .inl (g.2.1, 147, .inl fs)), (mk, .inl (g.2.1, 735, .inl kf))] := hD
        refine lv_aload_n hx hb dX6_addComparator_37 rfl (lv_at hl 0 rfl) ?_
        refine va_get (D := D) (ci := 6) (v := .ref ms) (C := RX6) (T := TX6) (N := 11) hx hb hts hi6 hown hK hP 0 rfl rfl 0 (by decide) (hts (.fieldLink RX6 7 "SelfCheckingCircuitModel" "s" "[I") (by decide +kernel)) (fun _ h9 => h9) rfl dX6_addComparator_38 ?_
        refine lv_iconst (v := 1) hx hb dX6_addComparator_41 (by decide) ?_
        refine lv_iload_n hx hb dX6_addComparator_42 rfl (lv_at hl 1 rfl) ?_
        refine lv_iload_n hx hb dX6_addComparator_43 rfl (lv_at hl 2 rfl) ?_
        refine hk_cmv (wr := [(mo, .inr (6, [.ref ms, .ref mr, .ref mk, .int (nI (min (km + 1) 5)), .ref mt, .int (nI ln), .int (nI sp), .int (nI rs), .int (nI ws), .ref mv, .ref me])), (mk, .inl (g.2.1, 735, .inl kf))]) (va_runS (As := [.ref ms, .int 1, .int (nI j1), .int (nI j2)]) (rest := []) ⟨hx, hb, hml, hown, hts⟩ (c6_gate l D g ti _ ms fs 1 (nI j1) (nI j2) (N - n) hM.1.2.1 (by have := hC.2.2.1; omega)) (va_cwS 4 hts gX6_addComparator_X6_gate rfl rfl rfl (by decide +kernel) ⟨Nat.le_of_ble_eq_true rfl, Nat.le_of_ble_eq_true rfl⟩) (hk_inS hE hP hD hS hA [1] (by decide) rfl) rfl rfl hl.1 rfl (lv_room (Nat.le_of_ble_eq_true rfl)) dX6_addComparator_44 ⟨Nat.zero_le _, Nat.zero_le _⟩) hP hD hS hA [1] [0, 2] rfl rfl (by decide) (by decide) (fun _u0 H locs hr_11 hP hD hS => ?_)
        try dsimp only at hr_11
        have hP : va_P D vwCl [(mo, .inr (6, [.ref ms, .ref mr, .ref mk, .int (nI (min (km + 1) 5)), .ref mt, .int (nI ln), .int (nI sp), .int (nI rs), .int (nI ws), .ref mv, .ref me])), (mk, .inl (g.2.1, 735, .inl kf)), (ms, .inl (g.2.1, 147, .inl (gU fs (N - n) 1 (nI j1) (nI j2))))] H := hP
        have hD : va_D A [(mo, .inr (6, [.ref ms, .ref mr, .ref mk, .int (nI (min (km + 1) 5)), .ref mt, .int (nI ln), .int (nI sp), .int (nI rs), .int (nI ws), .ref mv, .ref me])), (mk, .inl (g.2.1, 735, .inl kf)), (ms, .inl (g.2.1, 147, .inl (gU fs (N - n) 1 (nI j1) (nI j2))))] := hD
        refine lv_aload_n hx hb dX6_addComparator_47 rfl (lv_at hl 0 rfl) ?_
        refine va_get (D := D) (ci := 6) (v := .ref ms) (C := RX6) (T := TX6) (N := 11) hx hb hts hi6 hown hK hP 0 rfl rfl 0 (by decide) (hts (.fieldLink RX6 7 "SelfCheckingCircuitModel" "s" "[I") (by decide +kernel)) (fun _ h9 => h9) rfl dX6_addComparator_48 ?_
        refine lv_iconst (v := 0) hx hb dX6_addComparator_51 (by decide) ?_
        refine lv_iload_n hx hb dX6_addComparator_52 rfl (lv_at hl 1 rfl) ?_
        refine lv_iload_n hx hb dX6_addComparator_53 rfl (lv_at hl 2 rfl) ?_
        refine hk_cmv (wr := [(mo, .inr (6, [.ref ms, .ref mr, .ref mk, .int (nI (min (km + 1) 5)), .ref mt, .int (nI ln), .int (nI sp), .int (nI rs), .int (nI ws), .ref mv, .ref me])), (mk, .inl (g.2.1, 735, .inl kf))]) (va_runS (As := [.ref ms, .int 0, .int (nI j1), .int (nI j2)]) (rest := []) ⟨hx, hb, hml, hown, hts⟩ (c6_gate l D g ti _ ms (gU fs (N - n) 1 (nI j1) (nI j2)) 0 (nI j1) (nI j2) ((N - n) + 1) gU_1 (by have := hC.2.2.1; omega)) (va_cwS 4 hts gX6_addComparator_X6_gate rfl rfl rfl (by decide +kernel) ⟨Nat.le_of_ble_eq_true rfl, Nat.le_of_ble_eq_true rfl⟩) (hk_inS hE hP hD hS hA [2] (by decide) rfl) rfl rfl hl.1 rfl (lv_room (Nat.le_of_ble_eq_true rfl)) dX6_addComparator_54 ⟨Nat.zero_le _, Nat.zero_le _⟩) hP hD hS hA [2] [0, 1] rfl rfl (by decide) (by decide) (fun _u1 H locs hr_13 hP hD hS => ?_)
        try dsimp only at hr_13
        have hP : va_P D vwCl [(mo, .inr (6, [.ref ms, .ref mr, .ref mk, .int (nI (min (km + 1) 5)), .ref mt, .int (nI ln), .int (nI sp), .int (nI rs), .int (nI ws), .ref mv, .ref me])), (mk, .inl (g.2.1, 735, .inl kf)), (ms, .inl (g.2.1, 147, .inl (gU (gU fs (N - n) 1 (nI j1) (nI j2)) ((N - n) + 1) 0 (nI j1) (nI j2))))] H := hP
        have hD : va_D A [(mo, .inr (6, [.ref ms, .ref mr, .ref mk, .int (nI (min (km + 1) 5)), .ref mt, .int (nI ln), .int (nI sp), .int (nI rs), .int (nI ws), .ref mv, .ref me])), (mk, .inl (g.2.1, 735, .inl kf)), (ms, .inl (g.2.1, 147, .inl (gU (gU fs (N - n) 1 (nI j1) (nI j2)) ((N - n) + 1) 0 (nI j1) (nI j2))))] := hD
        refine lv_aload_n hx hb dX6_addComparator_57 rfl (lv_at hl 0 rfl) ?_
        refine va_get (D := D) (ci := 6) (v := .ref ms) (C := RX6) (T := TX6) (N := 11) hx hb hts hi6 hown hK hP 0 rfl rfl 0 (by decide) (hts (.fieldLink RX6 7 "SelfCheckingCircuitModel" "s" "[I") (by decide +kernel)) (fun _ h9 => h9) rfl dX6_addComparator_58 ?_
        refine hk_csi (va_runS (As := [.ref ms]) (rest := []) ⟨hx, hb, hml, hown, hts⟩ (c6_nodesOf l D g ti ms (gU (gU fs (N - n) 1 (nI j1) (nI j2)) ((N - n) + 1) 0 (nI j1) (nI j2)) ) (va_cwS 1 hts gX6_addComparator_X6_nodesOf rfl rfl rfl (by decide +kernel) ⟨Nat.le_of_ble_eq_true rfl, Nat.le_of_ble_eq_true rfl⟩) (hk_roS hE hP hS [2] rfl) rfl rfl hl.1 rfl (lv_room (Nat.le_of_ble_eq_true rfl)) dX6_addComparator_61 ⟨Nat.zero_le _, Nat.zero_le _⟩) (fun r_14 hr_15 => ?_)
        subst hr_15
        refine hk_ti (nI (N + 2)) (by rw [gU_0, gU_0, gU_1, hM.1.1, nI_add]; congr 1; have := hC.2.2.1; omega) ?_
        refine lv_iconst (v := 1) hx hb dX6_addComparator_64 (by decide) ?_
        refine lv_isub hx hb dX6_addComparator_65 ?_
        refine hk_ti (nI (N + 1)) (nI_pred (N + 1)) ?_
        have hP9 := hP.sub (ws' := [(mo, .inr (6, [.ref ms, .ref mr, .ref mk, .int (nI (min (km + 1) 5)), .ref mt, .int (nI ln), .int (nI sp), .int (nI rs), .int (nI ws), .ref mv, .ref me])), (ms, .inl (g.2.1, 147, .inl (gU (gU fs (N - n) 1 (nI j1) (nI j2)) ((N - n) + 1) 0 (nI j1) (nI j2)))), (mk, .inl (g.2.1, 735, .inl kf))]) [0, 2, 1] rfl
        have hD9 := hD.sub (ws' := [(mo, .inr (6, [.ref ms, .ref mr, .ref mk, .int (nI (min (km + 1) 5)), .ref mt, .int (nI ln), .int (nI sp), .int (nI rs), .int (nI ws), .ref mv, .ref me])), (ms, .inl (g.2.1, 147, .inl (gU (gU fs (N - n) 1 (nI j1) (nI j2)) ((N - n) + 1) 0 (nI j1) (nI j2)))), (mk, .inl (g.2.1, 735, .inl kf))]) [0, 2, 1] (by decide) rfl
        exact W.iret (v := nI (N + 1)) hx hb hr (fun tt ht hW => ⟨⟨_, kf, rfl, ⟨rfl, hr_9⟩, by rw [ht]; exact hP9, hD9⟩, hS.F ht⟩) hS.2.2 dX6_addComparator_66
      · have c_7h : ¬ nI (N - n) ≤ (22 : Int32) := c_7
        exact absurd (nI_le (b := 22) (by have := hC.2.2.1; omega) (by decide)) c_7
    · have c_6h : (bI (hn N (nI j2))) = (0 : Int32) := c_6
      exact absurd (hn_t hj2 (by have := hC.2.2.2.1; have := hC.2.1; omega)) (by rw [bI_0.mp c_6]; decide)
set_option maxHeartbeats 4000000 in
set_option maxRecDepth 100000 in
theorem c6_addComparator_no (l : Launch) (D : va_G) (g : hk_G) (ti : Nat) (mo : Nat) (ms : Nat) (mr : Nat) (mk : Nat) (mt : Nat) (mv : Nat) (me : Nat) (fs : Nat → Int32) (km : Nat) (ln : Nat) (sp : Nat) (rs : Nat) (ws : Nat) (n : Nat) (N : Nat) (o : Nat) (cd : Nat) (wt : Nat) (ty : Nat → Nat) (pa : Nat → Nat) (pb : Nat → Nat) (vo : Nat → Nat) (nm : Int64) (v1 : Int32) (v2 : Int32) (hC : Cok n N o cd wt) (hM : MR n N o cd wt ty pa pb vo nm fs) (hno : (hn N v1 && hn N v2) = false ∨ ¬ (N + 2 ≤ n + 24)) : Met l yX6_addComparator wsX6_addComparator ({ frames := 2, cells := 0, slots := 0, locals := 46 }) (va_Pc [.ref mo, .int v1, .int v2] (hk_Ro D g ti [(mo, .inr (6, [.ref ms, .ref mr, .ref mk, .int (nI km), .ref mt, .int (nI ln), .int (nI sp), .int (nI rs), .int (nI ws), .ref mv, .ref me])), (ms, .inl (g.2.1, 147, .inl fs))])) (vp_Si (fun r => r = if (hn N v1 && hn N v2) = true then -103 else -101)) 0 0 (fun _ => False) := by
  refine Met.ofW (cc := cX6_addComparator) (maxL := 3) (ret := (some .int)) (by decide) rfl ?_
  intro p e s m args below meth c s₁ Bd hml hv
  obtain ⟨rfl, hP, hE⟩ := hv
  have hx := Bd.exec
  have hb := Bd.bytes
  have hr := Bd.returns
  have hts := atoms_spec (ws := wsX6_addComparator) Bd.pre
  have hown : s.vm.findClass RX6 = some m.cls := findClass_of_methodNamed Bd.named
  have hlocks := Bd.notSynchronized
  have hK := hE.1
  have hi6 : ∀ w ∈ wsX60, w ∈ wsX6_addComparator := fun w h => List.mem_cons_of_mem _ (List.mem_append_right _ h)
  have hS : va_S (fun _ => False) s.heap s.heap [] := va_S.rf
  have hl := lv_entry ([.ref mo, .int v1, .int v2]) (n := 3) (Nat.le_of_ble_eq_true rfl)
  rw [lg_entry_eq]
  generalize (lg_sl ([.ref mo, .int v1, .int v2]) ++ List.replicate (3 - (lg_sl ([.ref mo, .int v1, .int v2])).length) Slot.unset).toArray = ls at hl ⊢
  have hl : lv_has ls 3 [(0, .ref mo), (1, .int v1), (2, .int v2)] := hl
  refine lv_aload_n hx hb dX6_addComparator_0 rfl (lv_at hl 0 rfl) ?_
  refine lv_iload_n hx hb dX6_addComparator_1 rfl (lv_at hl 1 rfl) ?_
  refine hk_csi (va_runV (As := [.int v1]) (rest := []) ⟨hx, hb, hml, hown, hts⟩ (c6_isNode l D g ti mo ms mr mk mt mv me fs km ln sp rs ws n N o cd wt ty pa pb vo nm v1 hC hM) (cwV 1 hts gX6_addComparator_X6_isNode rfl rfl rfl (by decide +kernel) ⟨Nat.le_of_ble_eq_true rfl, Nat.le_of_ble_eq_true rfl⟩) (hk_roV hE hP hS 6 rfl rfl [0, 1] rfl rfl) rfl rfl hl.1 rfl (lv_room (Nat.le_of_ble_eq_true rfl)) dX6_addComparator_2 ⟨Nat.zero_le _, Nat.zero_le _⟩) (fun r_1 hr_2 => ?_)
  subst hr_2
  refine lv_if_eq (tgt := 16) hx hb dX6_addComparator_5 (by decide) (fun c_3 => ?_) (fun c_3 => ?_)
  · have c_3h : (bI (hn N v1)) = (0 : Int32) := c_3
    refine lv_bipush (v := (-101)) hx hb dX6_addComparator_16 (by decide) ?_
    exact W.iret (v := (-101)) hx hb hr (fun tt ht hW => ⟨_, rfl, by rw [if_neg (by rw [bI_0.mp c_3]; simp)], ht⟩) (fun _ h => by cases h) dX6_addComparator_18
  · have c_3h : ¬ (bI (hn N v1)) = (0 : Int32) := c_3
    refine lv_aload_n hx hb dX6_addComparator_8 rfl (lv_at hl 0 rfl) ?_
    refine lv_iload_n hx hb dX6_addComparator_9 rfl (lv_at hl 2 rfl) ?_
    refine hk_csi (va_runV (As := [.int v2]) (rest := []) ⟨hx, hb, hml, hown, hts⟩ (c6_isNode l D g ti mo ms mr mk mt mv me fs km ln sp rs ws n N o cd wt ty pa pb vo nm v2 hC hM) (cwV 1 hts gX6_addComparator_X6_isNode rfl rfl rfl (by decide +kernel) ⟨Nat.le_of_ble_eq_true rfl, Nat.le_of_ble_eq_true rfl⟩) (hk_roV hE hP hS 6 rfl rfl [0, 1] rfl rfl) rfl rfl hl.1 rfl (lv_room (Nat.le_of_ble_eq_true rfl)) dX6_addComparator_10 ⟨Nat.zero_le _, Nat.zero_le _⟩) (fun r_4 hr_5 => ?_)
    subst hr_5
    refine lv_if_ne (tgt := 19) hx hb dX6_addComparator_13 (by decide) (fun c_6 => ?_) (fun c_6 => ?_)
    · have c_6h : ¬ (bI (hn N v2)) = (0 : Int32) := c_6
      refine lv_aload_n hx hb dX6_addComparator_19 rfl (lv_at hl 0 rfl) ?_
      refine va_get (D := D) (ci := 6) (v := .ref ms) (C := RX6) (T := TX6) (N := 11) hx hb hts hi6 hown hK hP 0 rfl rfl 0 (by decide) (hts (.fieldLink RX6 7 "SelfCheckingCircuitModel" "s" "[I") (by decide +kernel)) (fun _ h9 => h9) rfl dX6_addComparator_20 ?_
      refine lv_iconst (v := 1) hx hb dX6_addComparator_23 (by decide) ?_
      refine va_iald hx hb hK hP 1 1 rfl rfl (by unfold vp_in; decide) dX6_addComparator_24 ?_
      refine hk_ti (fs 1) (congrArg fs (by decide)) ?_
      refine hk_ti (nI (N - n)) (hM.1.2.1) ?_
      refine lv_bipush (v := 22) hx hb dX6_addComparator_25 (by decide) ?_
      refine lv_icmp_le (tgt := 33) hx hb dX6_addComparator_27 (by decide) (fun c_7 => ?_) (fun c_7 => ?_)
      · have c_7h : nI (N - n) ≤ (22 : Int32) := c_7
        exact absurd ((nI_leI (b := 22) (by have := hC.2.2.2.1; have := hC.2.1; omega) (by decide)).mp c_7) (by have := hno.resolve_left (by rw [bI_n0 c_3, bI_n0 c_6]; decide); have := hC.2.2.1; omega)
      · have c_7h : ¬ nI (N - n) ≤ (22 : Int32) := c_7
        refine lv_bipush (v := (-103)) hx hb dX6_addComparator_30 (by decide) ?_
        exact W.iret (v := (-103)) hx hb hr (fun tt ht hW => ⟨_, rfl, by rw [if_pos (by rw [bI_n0 c_3, bI_n0 c_6]; rfl)], ht⟩) (fun _ h => by cases h) dX6_addComparator_32
    · have c_6h : (bI (hn N v2)) = (0 : Int32) := c_6
      refine lv_bipush (v := (-101)) hx hb dX6_addComparator_16 (by decide) ?_
      exact W.iret (v := (-101)) hx hb hr (fun tt ht hW => ⟨_, rfl, by rw [if_neg (by rw [bI_0.mp c_6]; simp)], ht⟩) (fun _ h => by cases h) dX6_addComparator_18
set_option maxHeartbeats 4000000 in
set_option maxRecDepth 100000 in
theorem c6_addTwoRailCell (l : Launch) (D : va_G) (g : hk_G) (ti : Nat) (sz : Nat) (mo : Nat) (ms : Nat) (mr : Nat) (mk : Nat) (mt : Nat) (mv : Nat) (me : Nat) (fs : Nat → Int32) (km : Nat) (ln : Nat) (sp : Nat) (rs : Nat) (ws : Nat) (fk : Nat → Int32) (n : Nat) (N : Nat) (o : Nat) (cd : Nat) (wt : Nat) (ty : Nat → Nat) (pa : Nat → Nat) (pb : Nat → Nat) (vo : Nat → Nat) (nm : Int64) (j1 : Nat) (j2 : Nat) (j3 : Nat) (j4 : Nat) (hC : Cok n N o cd wt) (hM : MR n N o cd wt ty pa pb vo nm fs) (hkm : km ≤ 5) (hj1 : j1 < N) (hj2 : j2 < N) (hj3 : j3 < N) (hj4 : j4 < N) (hrm : N + 6 ≤ n + 24) : Met l yX6_addTwoRailCell wsX6_addTwoRailCell ({ frames := 2, cells := 0, slots := 0, locals := 46 }) (va_Pc [.ref mo, .int (nI j1), .int (nI j2), .int (nI j3), .int (nI j4)] (hk_In D g ti [(mo, .inr (6, [.ref ms, .ref mr, .ref mk, .int (nI km), .ref mt, .int (nI ln), .int (nI sp), .int (nI rs), .int (nI ws), .ref mv, .ref me])), (ms, .inl (g.2.1, 147, .inl fs)), (mk, .inl (g.2.1, 735, .inl fk))] sz)) (va_Qi (S := Nat → Int32) (fun r f' => r = nI (N + 5) ∧ KP fk fs f' km) (fun u => hk_Out D (va_A [(mo, .inr (6, [.ref ms, .ref mr, .ref mk, .int (nI km), .ref mt, .int (nI ln), .int (nI sp), .int (nI rs), .int (nI ws), .ref mv, .ref me])), (ms, .inl (g.2.1, 147, .inl fs)), (mk, .inl (g.2.1, 735, .inl fk))] sz) (match u with | f' => [(mo, .inr (6, [.ref ms, .ref mr, .ref mk, .int (nI (min (km + 1) 5)), .ref mt, .int (nI ln), .int (nI sp), .int (nI rs), .int (nI ws), .ref mv, .ref me])), (ms, .inl (g.2.1, 147, .inl (gU (gU (gU (gU (gU (gU fs (N - n) 0 (nI j1) (nI j3)) ((N - n) + 1) 0 (nI j2) (nI j4)) (((N - n) + 1) + 1) 1 (nI N) (nI (N + 1))) ((((N - n) + 1) + 1) + 1) 0 (nI j1) (nI j4)) (((((N - n) + 1) + 1) + 1) + 1) 0 (nI j2) (nI j3)) ((((((N - n) + 1) + 1) + 1) + 1) + 1) 1 (nI (N + 3)) (nI (N + 4))))), (mk, .inl (g.2.1, 735, .inl f'))])) (va_A [(mo, .inr (6, [.ref ms, .ref mr, .ref mk, .int (nI km), .ref mt, .int (nI ln), .int (nI sp), .int (nI rs), .int (nI ws), .ref mv, .ref me])), (ms, .inl (g.2.1, 147, .inl fs)), (mk, .inl (g.2.1, 735, .inl fk))] sz)) 0 0 (va_A [(mo, .inr (6, [.ref ms, .ref mr, .ref mk, .int (nI km), .ref mt, .int (nI ln), .int (nI sp), .int (nI rs), .int (nI ws), .ref mv, .ref me])), (ms, .inl (g.2.1, 147, .inl fs)), (mk, .inl (g.2.1, 735, .inl fk))] sz) := by
  refine Met.ofW (cc := cX6_addTwoRailCell) (maxL := 6) (ret := (some .int)) (by decide) rfl ?_
  intro p e s m args below meth c s₁ Bd hml hv
  obtain ⟨rfl, hsz, hP, hD0, hE⟩ := hv
  have hx := Bd.exec
  have hb := Bd.bytes
  have hr := Bd.returns
  have hts := atoms_spec (ws := wsX6_addTwoRailCell) Bd.pre
  have hown : s.vm.findClass RX6 = some m.cls := findClass_of_methodNamed Bd.named
  have hlocks := Bd.notSynchronized
  have hK := hE.1
  have hi6 : ∀ w ∈ wsX60, w ∈ wsX6_addTwoRailCell := fun w h => List.mem_cons_of_mem _ (List.mem_append_right _ h)
  subst hsz
  have hD := hD0.self (sz := s.heap.size)
  generalize hAe : va_A [(mo, .inr (6, [.ref ms, .ref mr, .ref mk, .int (nI km), .ref mt, .int (nI ln), .int (nI sp), .int (nI rs), .int (nI ws), .ref mv, .ref me])), (ms, .inl (g.2.1, 147, .inl fs)), (mk, .inl (g.2.1, 735, .inl fk))] s.heap.size = A at hD hE ⊢
  have hA : ∀ q : Nat, s.heap.size ≤ q → A q := fun q h => by rw [← hAe]; exact Or.inr h
  have hS : va_S A s.heap s.heap [] := va_S.rf
  have hl := lv_entry ([.ref mo, .int (nI j1), .int (nI j2), .int (nI j3), .int (nI j4)]) (n := 6) (Nat.le_of_ble_eq_true rfl)
  rw [lg_entry_eq]
  generalize (lg_sl ([.ref mo, .int (nI j1), .int (nI j2), .int (nI j3), .int (nI j4)]) ++ List.replicate (6 - (lg_sl ([.ref mo, .int (nI j1), .int (nI j2), .int (nI j3), .int (nI j4)])).length) Slot.unset).toArray = ls at hl ⊢
  have hl : lv_has ls 6 [(0, .ref mo), (1, .int (nI j1)), (2, .int (nI j2)), (3, .int (nI j3)), (4, .int (nI j4))] := hl
  refine lv_aload_n hx hb dX6_addTwoRailCell_0 rfl (lv_at hl 0 rfl) ?_
  refine lv_iload_n hx hb dX6_addTwoRailCell_1 rfl (lv_at hl 1 rfl) ?_
  refine hk_csi (va_runV (As := [.int (nI j1)]) (rest := []) ⟨hx, hb, hml, hown, hts⟩ (c6_isNode l D g ti mo ms mr mk mt mv me fs km ln sp rs ws n N o cd wt ty pa pb vo nm (nI j1) hC hM) (cwV 1 hts gX6_addTwoRailCell_X6_isNode rfl rfl rfl (by decide +kernel) ⟨Nat.le_of_ble_eq_true rfl, Nat.le_of_ble_eq_true rfl⟩) (hk_roV hE hP hS 6 rfl rfl [0, 1] rfl rfl) rfl rfl hl.1 rfl (lv_room (Nat.le_of_ble_eq_true rfl)) dX6_addTwoRailCell_2 ⟨Nat.zero_le _, Nat.zero_le _⟩) (fun r_1 hr_2 => ?_)
  subst hr_2
  refine lv_if_eq (tgt := 33) hx hb dX6_addTwoRailCell_5 (by decide) (fun c_3 => ?_) (fun c_3 => ?_)
  · have c_3h : (bI (hn N (nI j1))) = (0 : Int32) := c_3
    exact absurd (hn_t hj1 (by have := hC.2.2.2.1; have := hC.2.1; omega)) (by rw [bI_0.mp c_3]; decide)
  · have c_3h : ¬ (bI (hn N (nI j1))) = (0 : Int32) := c_3
    refine lv_aload_n hx hb dX6_addTwoRailCell_8 rfl (lv_at hl 0 rfl) ?_
    refine lv_iload_n hx hb dX6_addTwoRailCell_9 rfl (lv_at hl 2 rfl) ?_
    refine hk_csi (va_runV (As := [.int (nI j2)]) (rest := []) ⟨hx, hb, hml, hown, hts⟩ (c6_isNode l D g ti mo ms mr mk mt mv me fs km ln sp rs ws n N o cd wt ty pa pb vo nm (nI j2) hC hM) (cwV 1 hts gX6_addTwoRailCell_X6_isNode rfl rfl rfl (by decide +kernel) ⟨Nat.le_of_ble_eq_true rfl, Nat.le_of_ble_eq_true rfl⟩) (hk_roV hE hP hS 6 rfl rfl [0, 1] rfl rfl) rfl rfl hl.1 rfl (lv_room (Nat.le_of_ble_eq_true rfl)) dX6_addTwoRailCell_10 ⟨Nat.zero_le _, Nat.zero_le _⟩) (fun r_4 hr_5 => ?_)
    subst hr_5
    refine lv_if_eq (tgt := 33) hx hb dX6_addTwoRailCell_13 (by decide) (fun c_6 => ?_) (fun c_6 => ?_)
    · have c_6h : (bI (hn N (nI j2))) = (0 : Int32) := c_6
      exact absurd (hn_t hj2 (by have := hC.2.2.2.1; have := hC.2.1; omega)) (by rw [bI_0.mp c_6]; decide)
    · have c_6h : ¬ (bI (hn N (nI j2))) = (0 : Int32) := c_6
      refine lv_aload_n hx hb dX6_addTwoRailCell_16 rfl (lv_at hl 0 rfl) ?_
      refine lv_iload_n hx hb dX6_addTwoRailCell_17 rfl (lv_at hl 3 rfl) ?_
      refine hk_csi (va_runV (As := [.int (nI j3)]) (rest := []) ⟨hx, hb, hml, hown, hts⟩ (c6_isNode l D g ti mo ms mr mk mt mv me fs km ln sp rs ws n N o cd wt ty pa pb vo nm (nI j3) hC hM) (cwV 1 hts gX6_addTwoRailCell_X6_isNode rfl rfl rfl (by decide +kernel) ⟨Nat.le_of_ble_eq_true rfl, Nat.le_of_ble_eq_true rfl⟩) (hk_roV hE hP hS 6 rfl rfl [0, 1] rfl rfl) rfl rfl hl.1 rfl (lv_room (Nat.le_of_ble_eq_true rfl)) dX6_addTwoRailCell_18 ⟨Nat.zero_le _, Nat.zero_le _⟩) (fun r_7 hr_8 => ?_)
      subst hr_8
      refine lv_if_eq (tgt := 33) hx hb dX6_addTwoRailCell_21 (by decide) (fun c_9 => ?_) (fun c_9 => ?_)
      · have c_9h : (bI (hn N (nI j3))) = (0 : Int32) := c_9
        exact absurd (hn_t hj3 (by have := hC.2.2.2.1; have := hC.2.1; omega)) (by rw [bI_0.mp c_9]; decide)
      · have c_9h : ¬ (bI (hn N (nI j3))) = (0 : Int32) := c_9
        refine lv_aload_n hx hb dX6_addTwoRailCell_24 rfl (lv_at hl 0 rfl) ?_
        refine lv_iload hx hb dX6_addTwoRailCell_25 (lv_at hl 4 rfl) ?_
        refine hk_csi (va_runV (As := [.int (nI j4)]) (rest := []) ⟨hx, hb, hml, hown, hts⟩ (c6_isNode l D g ti mo ms mr mk mt mv me fs km ln sp rs ws n N o cd wt ty pa pb vo nm (nI j4) hC hM) (cwV 1 hts gX6_addTwoRailCell_X6_isNode rfl rfl rfl (by decide +kernel) ⟨Nat.le_of_ble_eq_true rfl, Nat.le_of_ble_eq_true rfl⟩) (hk_roV hE hP hS 6 rfl rfl [0, 1] rfl rfl) rfl rfl hl.1 rfl (lv_room (Nat.le_of_ble_eq_true rfl)) dX6_addTwoRailCell_27 ⟨Nat.zero_le _, Nat.zero_le _⟩) (fun r_10 hr_11 => ?_)
        subst hr_11
        refine lv_if_ne (tgt := 36) hx hb dX6_addTwoRailCell_30 (by decide) (fun c_12 => ?_) (fun c_12 => ?_)
        · have c_12h : ¬ (bI (hn N (nI j4))) = (0 : Int32) := c_12
          refine lv_aload_n hx hb dX6_addTwoRailCell_36 rfl (lv_at hl 0 rfl) ?_
          refine va_get (D := D) (ci := 6) (v := .ref ms) (C := RX6) (T := TX6) (N := 11) hx hb hts hi6 hown hK hP 0 rfl rfl 0 (by decide) (hts (.fieldLink RX6 7 "SelfCheckingCircuitModel" "s" "[I") (by decide +kernel)) (fun _ h9 => h9) rfl dX6_addTwoRailCell_37 ?_
          refine lv_iconst (v := 1) hx hb dX6_addTwoRailCell_40 (by decide) ?_
          refine va_iald hx hb hK hP 1 1 rfl rfl (by unfold vp_in; decide) dX6_addTwoRailCell_41 ?_
          refine hk_ti (fs 1) (congrArg fs (by decide)) ?_
          refine hk_ti (nI (N - n)) (hM.1.2.1) ?_
          refine lv_bipush (v := 18) hx hb dX6_addTwoRailCell_42 (by decide) ?_
          refine lv_icmp_le (tgt := 50) hx hb dX6_addTwoRailCell_44 (by decide) (fun c_13 => ?_) (fun c_13 => ?_)
          · have c_13h : nI (N - n) ≤ (18 : Int32) := c_13
            refine lv_aload_n hx hb dX6_addTwoRailCell_50 rfl (lv_at hl 0 rfl) ?_
            refine hk_cmv (wr := []) (va_runV (As := []) (rest := []) ⟨hx, hb, hml, hown, hts⟩ (c6_keeps l D g ti _ mo ms mr mk mt mv me fs km ln sp rs ws fk hkm) (cwV 0 hts gX6_addTwoRailCell_X6_keeps rfl rfl rfl (by decide +kernel) ⟨Nat.le_of_ble_eq_true rfl, Nat.le_of_ble_eq_true rfl⟩) (hk_inV hE hP hD hS hA 6 rfl rfl [0, 1, 2] (by decide) rfl rfl) rfl rfl hl.1 rfl (lv_room (Nat.le_of_ble_eq_true rfl)) dX6_addTwoRailCell_51 ⟨Nat.zero_le _, Nat.zero_le _⟩) hP hD hS hA [0, 1, 2] [] rfl rfl (by decide) (by decide) (fun kf H locs hr_15 hP hD hS => ?_)
            try dsimp only at hr_15
            have hP : va_P D vwCl [(mo, .inr (6, [.ref ms, .ref mr, .ref mk, .int (nI (min (km + 1) 5)), .ref mt, .int (nI ln), .int (nI sp), .int (nI rs), .int (nI ws), .ref mv, .ref me])), (ms, .inl (g.2.1, 147, .inl fs)), (mk, .inl (g.2.1, 735, .inl kf))] H := hP
            have hD : va_D A [(mo, .inr (6, [.ref ms, .ref mr, .ref mk, .int (nI (min (km + 1) 5)), .ref mt, .int (nI ln), .int (nI sp), .int (nI rs), .int (nI ws), .ref mv, .ref me])), (ms, .inl (g.2.1, 147, .inl fs)), (mk, .inl (g.2.1, 735, .inl kf))] := hD
            refine lv_aload_n hx hb dX6_addTwoRailCell_54 rfl (lv_at hl 0 rfl) ?_
            refine va_get (D := D) (ci := 6) (v := .ref ms) (C := RX6) (T := TX6) (N := 11) hx hb hts hi6 hown hK hP 0 rfl rfl 0 (by decide) (hts (.fieldLink RX6 7 "SelfCheckingCircuitModel" "s" "[I") (by decide +kernel)) (fun _ h9 => h9) rfl dX6_addTwoRailCell_55 ?_
            refine hk_csi (va_runS (As := [.ref ms]) (rest := []) ⟨hx, hb, hml, hown, hts⟩ (c6_nodesOf l D g ti ms fs ) (va_cwS 1 hts gX6_addTwoRailCell_X6_nodesOf rfl rfl rfl (by decide +kernel) ⟨Nat.le_of_ble_eq_true rfl, Nat.le_of_ble_eq_true rfl⟩) (hk_roS hE hP hS [1] rfl) rfl rfl hl.1 rfl (lv_room (Nat.le_of_ble_eq_true rfl)) dX6_addTwoRailCell_58 ⟨Nat.zero_le _, Nat.zero_le _⟩) (fun r_16 hr_17 => ?_)
            subst hr_17
            refine hk_ti (nI N) (by rw [hM.1.1, hM.1.2.1, nI_add, Nat.add_sub_cancel' hC.2.2.1]) ?_
            refine lv_istore (lv' := [(5, .int (nI N)), (0, .ref mo), (1, .int (nI j1)), (2, .int (nI j2)), (3, .int (nI j3)), (4, .int (nI j4))]) hx hb dX6_addTwoRailCell_61 hl (by decide) rfl (fun ls hl => ?_)
            refine lv_aload_n hx hb dX6_addTwoRailCell_63 rfl (lv_at hl 1 rfl) ?_
            refine va_get (D := D) (ci := 6) (v := .ref ms) (C := RX6) (T := TX6) (N := 11) hx hb hts hi6 hown hK hP 0 rfl rfl 0 (by decide) (hts (.fieldLink RX6 7 "SelfCheckingCircuitModel" "s" "[I") (by decide +kernel)) (fun _ h9 => h9) rfl dX6_addTwoRailCell_64 ?_
            refine lv_iconst (v := 0) hx hb dX6_addTwoRailCell_67 (by decide) ?_
            refine lv_iload_n hx hb dX6_addTwoRailCell_68 rfl (lv_at hl 2 rfl) ?_
            refine lv_iload_n hx hb dX6_addTwoRailCell_69 rfl (lv_at hl 4 rfl) ?_
            refine hk_cmv (wr := [(mo, .inr (6, [.ref ms, .ref mr, .ref mk, .int (nI (min (km + 1) 5)), .ref mt, .int (nI ln), .int (nI sp), .int (nI rs), .int (nI ws), .ref mv, .ref me])), (mk, .inl (g.2.1, 735, .inl kf))]) (va_runS (As := [.ref ms, .int 0, .int (nI j1), .int (nI j3)]) (rest := []) ⟨hx, hb, hml, hown, hts⟩ (c6_gate l D g ti _ ms fs 0 (nI j1) (nI j3) (N - n) hM.1.2.1 (by have := hC.2.2.1; omega)) (va_cwS 4 hts gX6_addTwoRailCell_X6_gate rfl rfl rfl (by decide +kernel) ⟨Nat.le_of_ble_eq_true rfl, Nat.le_of_ble_eq_true rfl⟩) (hk_inS hE hP hD hS hA [1] (by decide) rfl) rfl rfl hl.1 rfl (lv_room (Nat.le_of_ble_eq_true rfl)) dX6_addTwoRailCell_70 ⟨Nat.zero_le _, Nat.zero_le _⟩) hP hD hS hA [1] [0, 2] rfl rfl (by decide) (by decide) (fun _u0 H locs hr_19 hP hD hS => ?_)
            try dsimp only at hr_19
            have hP : va_P D vwCl [(mo, .inr (6, [.ref ms, .ref mr, .ref mk, .int (nI (min (km + 1) 5)), .ref mt, .int (nI ln), .int (nI sp), .int (nI rs), .int (nI ws), .ref mv, .ref me])), (mk, .inl (g.2.1, 735, .inl kf)), (ms, .inl (g.2.1, 147, .inl (gU fs (N - n) 0 (nI j1) (nI j3))))] H := hP
            have hD : va_D A [(mo, .inr (6, [.ref ms, .ref mr, .ref mk, .int (nI (min (km + 1) 5)), .ref mt, .int (nI ln), .int (nI sp), .int (nI rs), .int (nI ws), .ref mv, .ref me])), (mk, .inl (g.2.1, 735, .inl kf)), (ms, .inl (g.2.1, 147, .inl (gU fs (N - n) 0 (nI j1) (nI j3))))] := hD
            refine lv_aload_n hx hb dX6_addTwoRailCell_73 rfl (lv_at hl 1 rfl) ?_
            refine va_get (D := D) (ci := 6) (v := .ref ms) (C := RX6) (T := TX6) (N := 11) hx hb hts hi6 hown hK hP 0 rfl rfl 0 (by decide) (hts (.fieldLink RX6 7 "SelfCheckingCircuitModel" "s" "[I") (by decide +kernel)) (fun _ h9 => h9) rfl dX6_addTwoRailCell_74 ?_
            refine lv_iconst (v := 0) hx hb dX6_addTwoRailCell_77 (by decide) ?_
            refine lv_iload_n hx hb dX6_addTwoRailCell_78 rfl (lv_at hl 3 rfl) ?_
            refine lv_iload hx hb dX6_addTwoRailCell_79 (lv_at hl 5 rfl) ?_
            refine hk_cmv (wr := [(mo, .inr (6, [.ref ms, .ref mr, .ref mk, .int (nI (min (km + 1) 5)), .ref mt, .int (nI ln), .int (nI sp), .int (nI rs), .int (nI ws), .ref mv, .ref me])), (mk, .inl (g.2.1, 735, .inl kf))]) (va_runS (As := [.ref ms, .int 0, .int (nI j2), .int (nI j4)]) (rest := []) ⟨hx, hb, hml, hown, hts⟩ (c6_gate l D g ti _ ms (gU fs (N - n) 0 (nI j1) (nI j3)) 0 (nI j2) (nI j4) ((N - n) + 1) gU_1 (by have := hC.2.2.1; omega)) (va_cwS 4 hts gX6_addTwoRailCell_X6_gate rfl rfl rfl (by decide +kernel) ⟨Nat.le_of_ble_eq_true rfl, Nat.le_of_ble_eq_true rfl⟩) (hk_inS hE hP hD hS hA [2] (by decide) rfl) rfl rfl hl.1 rfl (lv_room (Nat.le_of_ble_eq_true rfl)) dX6_addTwoRailCell_81 ⟨Nat.zero_le _, Nat.zero_le _⟩) hP hD hS hA [2] [0, 1] rfl rfl (by decide) (by decide) (fun _u1 H locs hr_21 hP hD hS => ?_)
            try dsimp only at hr_21
            have hP : va_P D vwCl [(mo, .inr (6, [.ref ms, .ref mr, .ref mk, .int (nI (min (km + 1) 5)), .ref mt, .int (nI ln), .int (nI sp), .int (nI rs), .int (nI ws), .ref mv, .ref me])), (mk, .inl (g.2.1, 735, .inl kf)), (ms, .inl (g.2.1, 147, .inl (gU (gU fs (N - n) 0 (nI j1) (nI j3)) ((N - n) + 1) 0 (nI j2) (nI j4))))] H := hP
            have hD : va_D A [(mo, .inr (6, [.ref ms, .ref mr, .ref mk, .int (nI (min (km + 1) 5)), .ref mt, .int (nI ln), .int (nI sp), .int (nI rs), .int (nI ws), .ref mv, .ref me])), (mk, .inl (g.2.1, 735, .inl kf)), (ms, .inl (g.2.1, 147, .inl (gU (gU fs (N - n) 0 (nI j1) (nI j3)) ((N - n) + 1) 0 (nI j2) (nI j4))))] := hD
            refine lv_aload_n hx hb dX6_addTwoRailCell_84 rfl (lv_at hl 1 rfl) ?_
            refine va_get (D := D) (ci := 6) (v := .ref ms) (C := RX6) (T := TX6) (N := 11) hx hb hts hi6 hown hK hP 0 rfl rfl 0 (by decide) (hts (.fieldLink RX6 7 "SelfCheckingCircuitModel" "s" "[I") (by decide +kernel)) (fun _ h9 => h9) rfl dX6_addTwoRailCell_85 ?_
            refine lv_iconst (v := 1) hx hb dX6_addTwoRailCell_88 (by decide) ?_
            refine lv_iload hx hb dX6_addTwoRailCell_89 (lv_at hl 0 rfl) ?_
            refine lv_iload hx hb dX6_addTwoRailCell_91 (lv_at hl 0 rfl) ?_
            refine lv_iconst (v := 1) hx hb dX6_addTwoRailCell_93 (by decide) ?_
            refine lv_iadd hx hb dX6_addTwoRailCell_94 ?_
            refine hk_ti (nI (N + 1)) (nI_1 N) ?_
            refine hk_cmv (wr := [(mo, .inr (6, [.ref ms, .ref mr, .ref mk, .int (nI (min (km + 1) 5)), .ref mt, .int (nI ln), .int (nI sp), .int (nI rs), .int (nI ws), .ref mv, .ref me])), (mk, .inl (g.2.1, 735, .inl kf))]) (va_runS (As := [.ref ms, .int 1, .int (nI N), .int (nI (N + 1))]) (rest := []) ⟨hx, hb, hml, hown, hts⟩ (c6_gate l D g ti _ ms (gU (gU fs (N - n) 0 (nI j1) (nI j3)) ((N - n) + 1) 0 (nI j2) (nI j4)) 1 (nI N) (nI (N + 1)) (((N - n) + 1) + 1) gU_1 (by have := hC.2.2.1; omega)) (va_cwS 4 hts gX6_addTwoRailCell_X6_gate rfl rfl rfl (by decide +kernel) ⟨Nat.le_of_ble_eq_true rfl, Nat.le_of_ble_eq_true rfl⟩) (hk_inS hE hP hD hS hA [2] (by decide) rfl) rfl rfl hl.1 rfl (lv_room (Nat.le_of_ble_eq_true rfl)) dX6_addTwoRailCell_95 ⟨Nat.zero_le _, Nat.zero_le _⟩) hP hD hS hA [2] [0, 1] rfl rfl (by decide) (by decide) (fun _u2 H locs hr_23 hP hD hS => ?_)
            try dsimp only at hr_23
            have hP : va_P D vwCl [(mo, .inr (6, [.ref ms, .ref mr, .ref mk, .int (nI (min (km + 1) 5)), .ref mt, .int (nI ln), .int (nI sp), .int (nI rs), .int (nI ws), .ref mv, .ref me])), (mk, .inl (g.2.1, 735, .inl kf)), (ms, .inl (g.2.1, 147, .inl (gU (gU (gU fs (N - n) 0 (nI j1) (nI j3)) ((N - n) + 1) 0 (nI j2) (nI j4)) (((N - n) + 1) + 1) 1 (nI N) (nI (N + 1)))))] H := hP
            have hD : va_D A [(mo, .inr (6, [.ref ms, .ref mr, .ref mk, .int (nI (min (km + 1) 5)), .ref mt, .int (nI ln), .int (nI sp), .int (nI rs), .int (nI ws), .ref mv, .ref me])), (mk, .inl (g.2.1, 735, .inl kf)), (ms, .inl (g.2.1, 147, .inl (gU (gU (gU fs (N - n) 0 (nI j1) (nI j3)) ((N - n) + 1) 0 (nI j2) (nI j4)) (((N - n) + 1) + 1) 1 (nI N) (nI (N + 1)))))] := hD
            refine lv_aload_n hx hb dX6_addTwoRailCell_98 rfl (lv_at hl 1 rfl) ?_
            refine va_get (D := D) (ci := 6) (v := .ref ms) (C := RX6) (T := TX6) (N := 11) hx hb hts hi6 hown hK hP 0 rfl rfl 0 (by decide) (hts (.fieldLink RX6 7 "SelfCheckingCircuitModel" "s" "[I") (by decide +kernel)) (fun _ h9 => h9) rfl dX6_addTwoRailCell_99 ?_
            refine lv_iconst (v := 0) hx hb dX6_addTwoRailCell_102 (by decide) ?_
            refine lv_iload_n hx hb dX6_addTwoRailCell_103 rfl (lv_at hl 2 rfl) ?_
            refine lv_iload hx hb dX6_addTwoRailCell_104 (lv_at hl 5 rfl) ?_
            refine hk_cmv (wr := [(mo, .inr (6, [.ref ms, .ref mr, .ref mk, .int (nI (min (km + 1) 5)), .ref mt, .int (nI ln), .int (nI sp), .int (nI rs), .int (nI ws), .ref mv, .ref me])), (mk, .inl (g.2.1, 735, .inl kf))]) (va_runS (As := [.ref ms, .int 0, .int (nI j1), .int (nI j4)]) (rest := []) ⟨hx, hb, hml, hown, hts⟩ (c6_gate l D g ti _ ms (gU (gU (gU fs (N - n) 0 (nI j1) (nI j3)) ((N - n) + 1) 0 (nI j2) (nI j4)) (((N - n) + 1) + 1) 1 (nI N) (nI (N + 1))) 0 (nI j1) (nI j4) ((((N - n) + 1) + 1) + 1) gU_1 (by have := hC.2.2.1; omega)) (va_cwS 4 hts gX6_addTwoRailCell_X6_gate rfl rfl rfl (by decide +kernel) ⟨Nat.le_of_ble_eq_true rfl, Nat.le_of_ble_eq_true rfl⟩) (hk_inS hE hP hD hS hA [2] (by decide) rfl) rfl rfl hl.1 rfl (lv_room (Nat.le_of_ble_eq_true rfl)) dX6_addTwoRailCell_106 ⟨Nat.zero_le _, Nat.zero_le _⟩) hP hD hS hA [2] [0, 1] rfl rfl (by decide) (by decide) (fun _u3 H locs hr_25 hP hD hS => ?_)
            try dsimp only at hr_25
            have hP : va_P D vwCl [(mo, .inr (6, [.ref ms, .ref mr, .ref mk, .int (nI (min (km + 1) 5)), .ref mt, .int (nI ln), .int (nI sp), .int (nI rs), .int (nI ws), .ref mv, .ref me])), (mk, .inl (g.2.1, 735, .inl kf)), (ms, .inl (g.2.1, 147, .inl (gU (gU (gU (gU fs (N - n) 0 (nI j1) (nI j3)) ((N - n) + 1) 0 (nI j2) (nI j4)) (((N - n) + 1) + 1) 1 (nI N) (nI (N + 1))) ((((N - n) + 1) + 1) + 1) 0 (nI j1) (nI j4))))] H := hP
            have hD : va_D A [(mo, .inr (6, [.ref ms, .ref mr, .ref mk, .int (nI (min (km + 1) 5)), .ref mt, .int (nI ln), .int (nI sp), .int (nI rs), .int (nI ws), .ref mv, .ref me])), (mk, .inl (g.2.1, 735, .inl kf)), (ms, .inl (g.2.1, 147, .inl (gU (gU (gU (gU fs (N - n) 0 (nI j1) (nI j3)) ((N - n) + 1) 0 (nI j2) (nI j4)) (((N - n) + 1) + 1) 1 (nI N) (nI (N + 1))) ((((N - n) + 1) + 1) + 1) 0 (nI j1) (nI j4))))] := hD
            refine lv_aload_n hx hb dX6_addTwoRailCell_109 rfl (lv_at hl 1 rfl) ?_
            refine va_get (D := D) (ci := 6) (v := .ref ms) (C := RX6) (T := TX6) (N := 11) hx hb hts hi6 hown hK hP 0 rfl rfl 0 (by decide) (hts (.fieldLink RX6 7 "SelfCheckingCircuitModel" "s" "[I") (by decide +kernel)) (fun _ h9 => h9) rfl dX6_addTwoRailCell_110 ?_
            refine lv_iconst (v := 0) hx hb dX6_addTwoRailCell_113 (by decide) ?_
            refine lv_iload_n hx hb dX6_addTwoRailCell_114 rfl (lv_at hl 3 rfl) ?_
            refine lv_iload_n hx hb dX6_addTwoRailCell_115 rfl (lv_at hl 4 rfl) ?_
            refine hk_cmv (wr := [(mo, .inr (6, [.ref ms, .ref mr, .ref mk, .int (nI (min (km + 1) 5)), .ref mt, .int (nI ln), .int (nI sp), .int (nI rs), .int (nI ws), .ref mv, .ref me])), (mk, .inl (g.2.1, 735, .inl kf))]) (va_runS (As := [.ref ms, .int 0, .int (nI j2), .int (nI j3)]) (rest := []) ⟨hx, hb, hml, hown, hts⟩ (c6_gate l D g ti _ ms (gU (gU (gU (gU fs (N - n) 0 (nI j1) (nI j3)) ((N - n) + 1) 0 (nI j2) (nI j4)) (((N - n) + 1) + 1) 1 (nI N) (nI (N + 1))) ((((N - n) + 1) + 1) + 1) 0 (nI j1) (nI j4)) 0 (nI j2) (nI j3) (((((N - n) + 1) + 1) + 1) + 1) gU_1 (by have := hC.2.2.1; omega)) (va_cwS 4 hts gX6_addTwoRailCell_X6_gate rfl rfl rfl (by decide +kernel) ⟨Nat.le_of_ble_eq_true rfl, Nat.le_of_ble_eq_true rfl⟩) (hk_inS hE hP hD hS hA [2] (by decide) rfl) rfl rfl hl.1 rfl (lv_room (Nat.le_of_ble_eq_true rfl)) dX6_addTwoRailCell_116 ⟨Nat.zero_le _, Nat.zero_le _⟩) hP hD hS hA [2] [0, 1] rfl rfl (by decide) (by decide) (fun _u4 H locs hr_27 hP hD hS => ?_)
            try dsimp only at hr_27
            have hP : va_P D vwCl [(mo, .inr (6, [.ref ms, .ref mr, .ref mk, .int (nI (min (km + 1) 5)), .ref mt, .int (nI ln), .int (nI sp), .int (nI rs), .int (nI ws), .ref mv, .ref me])), (mk, .inl (g.2.1, 735, .inl kf)), (ms, .inl (g.2.1, 147, .inl (gU (gU (gU (gU (gU fs (N - n) 0 (nI j1) (nI j3)) ((N - n) + 1) 0 (nI j2) (nI j4)) (((N - n) + 1) + 1) 1 (nI N) (nI (N + 1))) ((((N - n) + 1) + 1) + 1) 0 (nI j1) (nI j4)) (((((N - n) + 1) + 1) + 1) + 1) 0 (nI j2) (nI j3))))] H := hP
            have hD : va_D A [(mo, .inr (6, [.ref ms, .ref mr, .ref mk, .int (nI (min (km + 1) 5)), .ref mt, .int (nI ln), .int (nI sp), .int (nI rs), .int (nI ws), .ref mv, .ref me])), (mk, .inl (g.2.1, 735, .inl kf)), (ms, .inl (g.2.1, 147, .inl (gU (gU (gU (gU (gU fs (N - n) 0 (nI j1) (nI j3)) ((N - n) + 1) 0 (nI j2) (nI j4)) (((N - n) + 1) + 1) 1 (nI N) (nI (N + 1))) ((((N - n) + 1) + 1) + 1) 0 (nI j1) (nI j4)) (((((N - n) + 1) + 1) + 1) + 1) 0 (nI j2) (nI j3))))] := hD
            refine lv_aload_n hx hb dX6_addTwoRailCell_119 rfl (lv_at hl 1 rfl) ?_
            refine va_get (D := D) (ci := 6) (v := .ref ms) (C := RX6) (T := TX6) (N := 11) hx hb hts hi6 hown hK hP 0 rfl rfl 0 (by decide) (hts (.fieldLink RX6 7 "SelfCheckingCircuitModel" "s" "[I") (by decide +kernel)) (fun _ h9 => h9) rfl dX6_addTwoRailCell_120 ?_
            refine lv_iconst (v := 1) hx hb dX6_addTwoRailCell_123 (by decide) ?_
            refine lv_iload hx hb dX6_addTwoRailCell_124 (lv_at hl 0 rfl) ?_
            refine lv_iconst (v := 3) hx hb dX6_addTwoRailCell_126 (by decide) ?_
            refine lv_iadd hx hb dX6_addTwoRailCell_127 ?_
            refine hk_ti (nI (N + 3)) (nI_add N 3) ?_
            refine lv_iload hx hb dX6_addTwoRailCell_128 (lv_at hl 0 rfl) ?_
            refine lv_iconst (v := 4) hx hb dX6_addTwoRailCell_130 (by decide) ?_
            refine lv_iadd hx hb dX6_addTwoRailCell_131 ?_
            refine hk_ti (nI (N + 4)) (nI_add N 4) ?_
            refine hk_cmv (wr := [(mo, .inr (6, [.ref ms, .ref mr, .ref mk, .int (nI (min (km + 1) 5)), .ref mt, .int (nI ln), .int (nI sp), .int (nI rs), .int (nI ws), .ref mv, .ref me])), (mk, .inl (g.2.1, 735, .inl kf))]) (va_runS (As := [.ref ms, .int 1, .int (nI (N + 3)), .int (nI (N + 4))]) (rest := []) ⟨hx, hb, hml, hown, hts⟩ (c6_gate l D g ti _ ms (gU (gU (gU (gU (gU fs (N - n) 0 (nI j1) (nI j3)) ((N - n) + 1) 0 (nI j2) (nI j4)) (((N - n) + 1) + 1) 1 (nI N) (nI (N + 1))) ((((N - n) + 1) + 1) + 1) 0 (nI j1) (nI j4)) (((((N - n) + 1) + 1) + 1) + 1) 0 (nI j2) (nI j3)) 1 (nI (N + 3)) (nI (N + 4)) ((((((N - n) + 1) + 1) + 1) + 1) + 1) gU_1 (by have := hC.2.2.1; omega)) (va_cwS 4 hts gX6_addTwoRailCell_X6_gate rfl rfl rfl (by decide +kernel) ⟨Nat.le_of_ble_eq_true rfl, Nat.le_of_ble_eq_true rfl⟩) (hk_inS hE hP hD hS hA [2] (by decide) rfl) rfl rfl hl.1 rfl (lv_room (Nat.le_of_ble_eq_true rfl)) dX6_addTwoRailCell_132 ⟨Nat.zero_le _, Nat.zero_le _⟩) hP hD hS hA [2] [0, 1] rfl rfl (by decide) (by decide) (fun _u5 H locs hr_29 hP hD hS => ?_)
            try dsimp only at hr_29
            have hP : va_P D vwCl [(mo, .inr (6, [.ref ms, .ref mr, .ref mk, .int (nI (min (km + 1) 5)), .ref mt, .int (nI ln), .int (nI sp), .int (nI rs), .int (nI ws), .ref mv, .ref me])), (mk, .inl (g.2.1, 735, .inl kf)), (ms, .inl (g.2.1, 147, .inl (gU (gU (gU (gU (gU (gU fs (N - n) 0 (nI j1) (nI j3)) ((N - n) + 1) 0 (nI j2) (nI j4)) (((N - n) + 1) + 1) 1 (nI N) (nI (N + 1))) ((((N - n) + 1) + 1) + 1) 0 (nI j1) (nI j4)) (((((N - n) + 1) + 1) + 1) + 1) 0 (nI j2) (nI j3)) ((((((N - n) + 1) + 1) + 1) + 1) + 1) 1 (nI (N + 3)) (nI (N + 4)))))] H := hP
            have hD : va_D A [(mo, .inr (6, [.ref ms, .ref mr, .ref mk, .int (nI (min (km + 1) 5)), .ref mt, .int (nI ln), .int (nI sp), .int (nI rs), .int (nI ws), .ref mv, .ref me])), (mk, .inl (g.2.1, 735, .inl kf)), (ms, .inl (g.2.1, 147, .inl (gU (gU (gU (gU (gU (gU fs (N - n) 0 (nI j1) (nI j3)) ((N - n) + 1) 0 (nI j2) (nI j4)) (((N - n) + 1) + 1) 1 (nI N) (nI (N + 1))) ((((N - n) + 1) + 1) + 1) 0 (nI j1) (nI j4)) (((((N - n) + 1) + 1) + 1) + 1) 0 (nI j2) (nI j3)) ((((((N - n) + 1) + 1) + 1) + 1) + 1) 1 (nI (N + 3)) (nI (N + 4)))))] := hD
            refine lv_iload hx hb dX6_addTwoRailCell_135 (lv_at hl 0 rfl) ?_
            refine lv_iconst (v := 5) hx hb dX6_addTwoRailCell_137 (by decide) ?_
            refine lv_iadd hx hb dX6_addTwoRailCell_138 ?_
            refine hk_ti (nI (N + 5)) (nI_add N 5) ?_
            have hP9 := hP.sub (ws' := [(mo, .inr (6, [.ref ms, .ref mr, .ref mk, .int (nI (min (km + 1) 5)), .ref mt, .int (nI ln), .int (nI sp), .int (nI rs), .int (nI ws), .ref mv, .ref me])), (ms, .inl (g.2.1, 147, .inl (gU (gU (gU (gU (gU (gU fs (N - n) 0 (nI j1) (nI j3)) ((N - n) + 1) 0 (nI j2) (nI j4)) (((N - n) + 1) + 1) 1 (nI N) (nI (N + 1))) ((((N - n) + 1) + 1) + 1) 0 (nI j1) (nI j4)) (((((N - n) + 1) + 1) + 1) + 1) 0 (nI j2) (nI j3)) ((((((N - n) + 1) + 1) + 1) + 1) + 1) 1 (nI (N + 3)) (nI (N + 4))))), (mk, .inl (g.2.1, 735, .inl kf))]) [0, 2, 1] rfl
            have hD9 := hD.sub (ws' := [(mo, .inr (6, [.ref ms, .ref mr, .ref mk, .int (nI (min (km + 1) 5)), .ref mt, .int (nI ln), .int (nI sp), .int (nI rs), .int (nI ws), .ref mv, .ref me])), (ms, .inl (g.2.1, 147, .inl (gU (gU (gU (gU (gU (gU fs (N - n) 0 (nI j1) (nI j3)) ((N - n) + 1) 0 (nI j2) (nI j4)) (((N - n) + 1) + 1) 1 (nI N) (nI (N + 1))) ((((N - n) + 1) + 1) + 1) 0 (nI j1) (nI j4)) (((((N - n) + 1) + 1) + 1) + 1) 0 (nI j2) (nI j3)) ((((((N - n) + 1) + 1) + 1) + 1) + 1) 1 (nI (N + 3)) (nI (N + 4))))), (mk, .inl (g.2.1, 735, .inl kf))]) [0, 2, 1] (by decide) rfl
            exact W.iret (v := nI (N + 5)) hx hb hr (fun tt ht hW => ⟨⟨_, kf, rfl, ⟨rfl, hr_15⟩, by rw [ht]; exact hP9, hD9⟩, hS.F ht⟩) hS.2.2 dX6_addTwoRailCell_139
          · have c_13h : ¬ nI (N - n) ≤ (18 : Int32) := c_13
            exact absurd (nI_le (b := 18) (by have := hC.2.2.1; omega) (by decide)) c_13
        · have c_12h : (bI (hn N (nI j4))) = (0 : Int32) := c_12
          exact absurd (hn_t hj4 (by have := hC.2.2.2.1; have := hC.2.1; omega)) (by rw [bI_0.mp c_12]; decide)
set_option maxHeartbeats 4000000 in
set_option maxRecDepth 100000 in
theorem c6_addTwoRailCell_no (l : Launch) (D : va_G) (g : hk_G) (ti : Nat) (mo : Nat) (ms : Nat) (mr : Nat) (mk : Nat) (mt : Nat) (mv : Nat) (me : Nat) (fs : Nat → Int32) (km : Nat) (ln : Nat) (sp : Nat) (rs : Nat) (ws : Nat) (n : Nat) (N : Nat) (o : Nat) (cd : Nat) (wt : Nat) (ty : Nat → Nat) (pa : Nat → Nat) (pb : Nat → Nat) (vo : Nat → Nat) (nm : Int64) (v1 : Int32) (v2 : Int32) (v3 : Int32) (v4 : Int32) (hC : Cok n N o cd wt) (hM : MR n N o cd wt ty pa pb vo nm fs) (hno : (((hn N v1 && hn N v2) && hn N v3) && hn N v4) = false ∨ ¬ (N + 6 ≤ n + 24)) : Met l yX6_addTwoRailCell wsX6_addTwoRailCell ({ frames := 2, cells := 0, slots := 0, locals := 46 }) (va_Pc [.ref mo, .int v1, .int v2, .int v3, .int v4] (hk_Ro D g ti [(mo, .inr (6, [.ref ms, .ref mr, .ref mk, .int (nI km), .ref mt, .int (nI ln), .int (nI sp), .int (nI rs), .int (nI ws), .ref mv, .ref me])), (ms, .inl (g.2.1, 147, .inl fs))])) (vp_Si (fun r => r = if (((hn N v1 && hn N v2) && hn N v3) && hn N v4) = true then -103 else -101)) 0 0 (fun _ => False) := by
  refine Met.ofW (cc := cX6_addTwoRailCell) (maxL := 6) (ret := (some .int)) (by decide) rfl ?_
  intro p e s m args below meth c s₁ Bd hml hv
  obtain ⟨rfl, hP, hE⟩ := hv
  have hx := Bd.exec
  have hb := Bd.bytes
  have hr := Bd.returns
  have hts := atoms_spec (ws := wsX6_addTwoRailCell) Bd.pre
  have hown : s.vm.findClass RX6 = some m.cls := findClass_of_methodNamed Bd.named
  have hlocks := Bd.notSynchronized
  have hK := hE.1
  have hi6 : ∀ w ∈ wsX60, w ∈ wsX6_addTwoRailCell := fun w h => List.mem_cons_of_mem _ (List.mem_append_right _ h)
  have hS : va_S (fun _ => False) s.heap s.heap [] := va_S.rf
  have hl := lv_entry ([.ref mo, .int v1, .int v2, .int v3, .int v4]) (n := 6) (Nat.le_of_ble_eq_true rfl)
  rw [lg_entry_eq]
  generalize (lg_sl ([.ref mo, .int v1, .int v2, .int v3, .int v4]) ++ List.replicate (6 - (lg_sl ([.ref mo, .int v1, .int v2, .int v3, .int v4])).length) Slot.unset).toArray = ls at hl ⊢
  have hl : lv_has ls 6 [(0, .ref mo), (1, .int v1), (2, .int v2), (3, .int v3), (4, .int v4)] := hl
  refine lv_aload_n hx hb dX6_addTwoRailCell_0 rfl (lv_at hl 0 rfl) ?_
  refine lv_iload_n hx hb dX6_addTwoRailCell_1 rfl (lv_at hl 1 rfl) ?_
  refine hk_csi (va_runV (As := [.int v1]) (rest := []) ⟨hx, hb, hml, hown, hts⟩ (c6_isNode l D g ti mo ms mr mk mt mv me fs km ln sp rs ws n N o cd wt ty pa pb vo nm v1 hC hM) (cwV 1 hts gX6_addTwoRailCell_X6_isNode rfl rfl rfl (by decide +kernel) ⟨Nat.le_of_ble_eq_true rfl, Nat.le_of_ble_eq_true rfl⟩) (hk_roV hE hP hS 6 rfl rfl [0, 1] rfl rfl) rfl rfl hl.1 rfl (lv_room (Nat.le_of_ble_eq_true rfl)) dX6_addTwoRailCell_2 ⟨Nat.zero_le _, Nat.zero_le _⟩) (fun r_1 hr_2 => ?_)
  subst hr_2
  refine lv_if_eq (tgt := 33) hx hb dX6_addTwoRailCell_5 (by decide) (fun c_3 => ?_) (fun c_3 => ?_)
  · have c_3h : (bI (hn N v1)) = (0 : Int32) := c_3
    refine lv_bipush (v := (-101)) hx hb dX6_addTwoRailCell_33 (by decide) ?_
    exact W.iret (v := (-101)) hx hb hr (fun tt ht hW => ⟨_, rfl, by rw [if_neg (by rw [bI_0.mp c_3]; simp)], ht⟩) (fun _ h => by cases h) dX6_addTwoRailCell_35
  · have c_3h : ¬ (bI (hn N v1)) = (0 : Int32) := c_3
    refine lv_aload_n hx hb dX6_addTwoRailCell_8 rfl (lv_at hl 0 rfl) ?_
    refine lv_iload_n hx hb dX6_addTwoRailCell_9 rfl (lv_at hl 2 rfl) ?_
    refine hk_csi (va_runV (As := [.int v2]) (rest := []) ⟨hx, hb, hml, hown, hts⟩ (c6_isNode l D g ti mo ms mr mk mt mv me fs km ln sp rs ws n N o cd wt ty pa pb vo nm v2 hC hM) (cwV 1 hts gX6_addTwoRailCell_X6_isNode rfl rfl rfl (by decide +kernel) ⟨Nat.le_of_ble_eq_true rfl, Nat.le_of_ble_eq_true rfl⟩) (hk_roV hE hP hS 6 rfl rfl [0, 1] rfl rfl) rfl rfl hl.1 rfl (lv_room (Nat.le_of_ble_eq_true rfl)) dX6_addTwoRailCell_10 ⟨Nat.zero_le _, Nat.zero_le _⟩) (fun r_4 hr_5 => ?_)
    subst hr_5
    refine lv_if_eq (tgt := 33) hx hb dX6_addTwoRailCell_13 (by decide) (fun c_6 => ?_) (fun c_6 => ?_)
    · have c_6h : (bI (hn N v2)) = (0 : Int32) := c_6
      refine lv_bipush (v := (-101)) hx hb dX6_addTwoRailCell_33 (by decide) ?_
      exact W.iret (v := (-101)) hx hb hr (fun tt ht hW => ⟨_, rfl, by rw [if_neg (by rw [bI_0.mp c_6]; simp)], ht⟩) (fun _ h => by cases h) dX6_addTwoRailCell_35
    · have c_6h : ¬ (bI (hn N v2)) = (0 : Int32) := c_6
      refine lv_aload_n hx hb dX6_addTwoRailCell_16 rfl (lv_at hl 0 rfl) ?_
      refine lv_iload_n hx hb dX6_addTwoRailCell_17 rfl (lv_at hl 3 rfl) ?_
      refine hk_csi (va_runV (As := [.int v3]) (rest := []) ⟨hx, hb, hml, hown, hts⟩ (c6_isNode l D g ti mo ms mr mk mt mv me fs km ln sp rs ws n N o cd wt ty pa pb vo nm v3 hC hM) (cwV 1 hts gX6_addTwoRailCell_X6_isNode rfl rfl rfl (by decide +kernel) ⟨Nat.le_of_ble_eq_true rfl, Nat.le_of_ble_eq_true rfl⟩) (hk_roV hE hP hS 6 rfl rfl [0, 1] rfl rfl) rfl rfl hl.1 rfl (lv_room (Nat.le_of_ble_eq_true rfl)) dX6_addTwoRailCell_18 ⟨Nat.zero_le _, Nat.zero_le _⟩) (fun r_7 hr_8 => ?_)
      subst hr_8
      refine lv_if_eq (tgt := 33) hx hb dX6_addTwoRailCell_21 (by decide) (fun c_9 => ?_) (fun c_9 => ?_)
      · have c_9h : (bI (hn N v3)) = (0 : Int32) := c_9
        refine lv_bipush (v := (-101)) hx hb dX6_addTwoRailCell_33 (by decide) ?_
        exact W.iret (v := (-101)) hx hb hr (fun tt ht hW => ⟨_, rfl, by rw [if_neg (by rw [bI_0.mp c_9]; simp)], ht⟩) (fun _ h => by cases h) dX6_addTwoRailCell_35
      · have c_9h : ¬ (bI (hn N v3)) = (0 : Int32) := c_9
        refine lv_aload_n hx hb dX6_addTwoRailCell_24 rfl (lv_at hl 0 rfl) ?_
        refine lv_iload hx hb dX6_addTwoRailCell_25 (lv_at hl 4 rfl) ?_
        refine hk_csi (va_runV (As := [.int v4]) (rest := []) ⟨hx, hb, hml, hown, hts⟩ (c6_isNode l D g ti mo ms mr mk mt mv me fs km ln sp rs ws n N o cd wt ty pa pb vo nm v4 hC hM) (cwV 1 hts gX6_addTwoRailCell_X6_isNode rfl rfl rfl (by decide +kernel) ⟨Nat.le_of_ble_eq_true rfl, Nat.le_of_ble_eq_true rfl⟩) (hk_roV hE hP hS 6 rfl rfl [0, 1] rfl rfl) rfl rfl hl.1 rfl (lv_room (Nat.le_of_ble_eq_true rfl)) dX6_addTwoRailCell_27 ⟨Nat.zero_le _, Nat.zero_le _⟩) (fun r_10 hr_11 => ?_)
        subst hr_11
        refine lv_if_ne (tgt := 36) hx hb dX6_addTwoRailCell_30 (by decide) (fun c_12 => ?_) (fun c_12 => ?_)
        · have c_12h : ¬ (bI (hn N v4)) = (0 : Int32) := c_12
          refine lv_aload_n hx hb dX6_addTwoRailCell_36 rfl (lv_at hl 0 rfl) ?_
          refine va_get (D := D) (ci := 6) (v := .ref ms) (C := RX6) (T := TX6) (N := 11) hx hb hts hi6 hown hK hP 0 rfl rfl 0 (by decide) (hts (.fieldLink RX6 7 "SelfCheckingCircuitModel" "s" "[I") (by decide +kernel)) (fun _ h9 => h9) rfl dX6_addTwoRailCell_37 ?_
          refine lv_iconst (v := 1) hx hb dX6_addTwoRailCell_40 (by decide) ?_
          refine va_iald hx hb hK hP 1 1 rfl rfl (by unfold vp_in; decide) dX6_addTwoRailCell_41 ?_
          refine hk_ti (fs 1) (congrArg fs (by decide)) ?_
          refine hk_ti (nI (N - n)) (hM.1.2.1) ?_
          refine lv_bipush (v := 18) hx hb dX6_addTwoRailCell_42 (by decide) ?_
          refine lv_icmp_le (tgt := 50) hx hb dX6_addTwoRailCell_44 (by decide) (fun c_13 => ?_) (fun c_13 => ?_)
          · have c_13h : nI (N - n) ≤ (18 : Int32) := c_13
            exact absurd ((nI_leI (b := 18) (by have := hC.2.2.2.1; have := hC.2.1; omega) (by decide)).mp c_13) (by have := hno.resolve_left (by rw [bI_n0 c_3, bI_n0 c_6, bI_n0 c_9, bI_n0 c_12]; decide); have := hC.2.2.1; omega)
          · have c_13h : ¬ nI (N - n) ≤ (18 : Int32) := c_13
            refine lv_bipush (v := (-103)) hx hb dX6_addTwoRailCell_47 (by decide) ?_
            exact W.iret (v := (-103)) hx hb hr (fun tt ht hW => ⟨_, rfl, by rw [if_pos (by rw [bI_n0 c_3, bI_n0 c_6, bI_n0 c_9, bI_n0 c_12]; rfl)], ht⟩) (fun _ h => by cases h) dX6_addTwoRailCell_49
        · have c_12h : (bI (hn N v4)) = (0 : Int32) := c_12
          refine lv_bipush (v := (-101)) hx hb dX6_addTwoRailCell_33 (by decide) ?_
          exact W.iret (v := (-101)) hx hb hr (fun tt ht hW => ⟨_, rfl, by rw [if_neg (by rw [bI_0.mp c_12]; simp)], ht⟩) (fun _ h => by cases h) dX6_addTwoRailCell_35
set_option maxHeartbeats 4000000 in
set_option maxRecDepth 100000 in
theorem c6_addOutput (l : Launch) (D : va_G) (g : hk_G) (ti : Nat) (sz : Nat) (mo : Nat) (ms : Nat) (mr : Nat) (mk : Nat) (mt : Nat) (mv : Nat) (me : Nat) (fs : Nat → Int32) (km : Nat) (ln : Nat) (sp : Nat) (rs : Nat) (ws : Nat) (fk : Nat → Int32) (n : Nat) (N : Nat) (o : Nat) (cd : Nat) (wt : Nat) (ty : Nat → Nat) (pa : Nat → Nat) (pb : Nat → Nat) (vo : Nat → Nat) (nm : Int64) (j : Nat) (hC : Cok n N o cd wt) (hM : MR n N o cd wt ty pa pb vo nm fs) (hkm : km ≤ 5) (hj : j < N) (ho6 : o < 6) : Met l yX6_addOutput wsX6_addOutput ({ frames := 2, cells := 0, slots := 0, locals := 46 }) (va_Pc [.ref mo, .int (nI j)] (hk_In D g ti [(mo, .inr (6, [.ref ms, .ref mr, .ref mk, .int (nI km), .ref mt, .int (nI ln), .int (nI sp), .int (nI rs), .int (nI ws), .ref mv, .ref me])), (ms, .inl (g.2.1, 147, .inl fs)), (mk, .inl (g.2.1, 735, .inl fk))] sz)) (va_Qi (S := Nat → Int32) (fun r f' => r = nI (o + 1) ∧ KP fk fs f' km) (fun u => hk_Out D (va_A [(mo, .inr (6, [.ref ms, .ref mr, .ref mk, .int (nI km), .ref mt, .int (nI ln), .int (nI sp), .int (nI rs), .int (nI ws), .ref mv, .ref me])), (ms, .inl (g.2.1, 147, .inl fs)), (mk, .inl (g.2.1, 735, .inl fk))] sz) (match u with | f' => [(mo, .inr (6, [.ref ms, .ref mr, .ref mk, .int (nI (min (km + 1) 5)), .ref mt, .int (nI ln), .int (nI sp), .int (nI rs), .int (nI ws), .ref mv, .ref me])), (ms, .inl (g.2.1, 147, .inl (upd (upd fs (75 + o) (nI j)) 74 (nI (o + 1))))), (mk, .inl (g.2.1, 735, .inl f'))])) (va_A [(mo, .inr (6, [.ref ms, .ref mr, .ref mk, .int (nI km), .ref mt, .int (nI ln), .int (nI sp), .int (nI rs), .int (nI ws), .ref mv, .ref me])), (ms, .inl (g.2.1, 147, .inl fs)), (mk, .inl (g.2.1, 735, .inl fk))] sz)) 0 0 (va_A [(mo, .inr (6, [.ref ms, .ref mr, .ref mk, .int (nI km), .ref mt, .int (nI ln), .int (nI sp), .int (nI rs), .int (nI ws), .ref mv, .ref me])), (ms, .inl (g.2.1, 147, .inl fs)), (mk, .inl (g.2.1, 735, .inl fk))] sz) := by
  refine Met.ofW (cc := cX6_addOutput) (maxL := 2) (ret := (some .int)) (by decide) rfl ?_
  intro p e s m args below meth c s₁ Bd hml hv
  obtain ⟨rfl, hsz, hP, hD0, hE⟩ := hv
  have hx := Bd.exec
  have hb := Bd.bytes
  have hr := Bd.returns
  have hts := atoms_spec (ws := wsX6_addOutput) Bd.pre
  have hown : s.vm.findClass RX6 = some m.cls := findClass_of_methodNamed Bd.named
  have hlocks := Bd.notSynchronized
  have hK := hE.1
  have hi6 : ∀ w ∈ wsX60, w ∈ wsX6_addOutput := fun w h => List.mem_cons_of_mem _ (List.mem_append_right _ h)
  subst hsz
  have hD := hD0.self (sz := s.heap.size)
  generalize hAe : va_A [(mo, .inr (6, [.ref ms, .ref mr, .ref mk, .int (nI km), .ref mt, .int (nI ln), .int (nI sp), .int (nI rs), .int (nI ws), .ref mv, .ref me])), (ms, .inl (g.2.1, 147, .inl fs)), (mk, .inl (g.2.1, 735, .inl fk))] s.heap.size = A at hD hE ⊢
  have hA : ∀ q : Nat, s.heap.size ≤ q → A q := fun q h => by rw [← hAe]; exact Or.inr h
  have hS : va_S A s.heap s.heap [] := va_S.rf
  have hl := lv_entry ([.ref mo, .int (nI j)]) (n := 2) (Nat.le_of_ble_eq_true rfl)
  rw [lg_entry_eq]
  generalize (lg_sl ([.ref mo, .int (nI j)]) ++ List.replicate (2 - (lg_sl ([.ref mo, .int (nI j)])).length) Slot.unset).toArray = ls at hl ⊢
  have hl : lv_has ls 2 [(0, .ref mo), (1, .int (nI j))] := hl
  refine lv_aload_n hx hb dX6_addOutput_0 rfl (lv_at hl 0 rfl) ?_
  refine lv_iload_n hx hb dX6_addOutput_1 rfl (lv_at hl 1 rfl) ?_
  refine hk_csi (va_runV (As := [.int (nI j)]) (rest := []) ⟨hx, hb, hml, hown, hts⟩ (c6_isNode l D g ti mo ms mr mk mt mv me fs km ln sp rs ws n N o cd wt ty pa pb vo nm (nI j) hC hM) (cwV 1 hts gX6_addOutput_X6_isNode rfl rfl rfl (by decide +kernel) ⟨Nat.le_of_ble_eq_true rfl, Nat.le_of_ble_eq_true rfl⟩) (hk_roV hE hP hS 6 rfl rfl [0, 1] rfl rfl) rfl rfl hl.1 rfl (lv_room (Nat.le_of_ble_eq_true rfl)) dX6_addOutput_2 ⟨Nat.zero_le _, Nat.zero_le _⟩) (fun r_1 hr_2 => ?_)
  subst hr_2
  refine lv_if_ne (tgt := 11) hx hb dX6_addOutput_5 (by decide) (fun c_3 => ?_) (fun c_3 => ?_)
  · have c_3h : ¬ (bI (hn N (nI j))) = (0 : Int32) := c_3
    refine lv_aload_n hx hb dX6_addOutput_11 rfl (lv_at hl 0 rfl) ?_
    refine va_get (D := D) (ci := 6) (v := .ref ms) (C := RX6) (T := TX6) (N := 11) hx hb hts hi6 hown hK hP 0 rfl rfl 0 (by decide) (hts (.fieldLink RX6 7 "SelfCheckingCircuitModel" "s" "[I") (by decide +kernel)) (fun _ h9 => h9) rfl dX6_addOutput_12 ?_
    refine lv_bipush (v := 74) hx hb dX6_addOutput_15 (by decide) ?_
    refine va_iald hx hb hK hP 1 1 rfl rfl (by unfold vp_in; decide) dX6_addOutput_17 ?_
    refine hk_ti (fs 74) (congrArg fs (by decide)) ?_
    refine hk_ti (nI o) (hM.1.2.2.1) ?_
    refine lv_bipush (v := 6) hx hb dX6_addOutput_18 (by decide) ?_
    refine lv_icmp_ne (tgt := 26) hx hb dX6_addOutput_20 (by decide) (fun c_4 => ?_) (fun c_4 => ?_)
    · have c_4h : ¬ nI o = (6 : Int32) := c_4
      refine lv_aload_n hx hb dX6_addOutput_26 rfl (lv_at hl 0 rfl) ?_
      refine hk_cmv (wr := []) (va_runV (As := []) (rest := []) ⟨hx, hb, hml, hown, hts⟩ (c6_keeps l D g ti _ mo ms mr mk mt mv me fs km ln sp rs ws fk hkm) (cwV 0 hts gX6_addOutput_X6_keeps rfl rfl rfl (by decide +kernel) ⟨Nat.le_of_ble_eq_true rfl, Nat.le_of_ble_eq_true rfl⟩) (hk_inV hE hP hD hS hA 6 rfl rfl [0, 1, 2] (by decide) rfl rfl) rfl rfl hl.1 rfl (lv_room (Nat.le_of_ble_eq_true rfl)) dX6_addOutput_27 ⟨Nat.zero_le _, Nat.zero_le _⟩) hP hD hS hA [0, 1, 2] [] rfl rfl (by decide) (by decide) (fun kf H locs hr_6 hP hD hS => ?_)
      try dsimp only at hr_6
      have hP : va_P D vwCl [(mo, .inr (6, [.ref ms, .ref mr, .ref mk, .int (nI (min (km + 1) 5)), .ref mt, .int (nI ln), .int (nI sp), .int (nI rs), .int (nI ws), .ref mv, .ref me])), (ms, .inl (g.2.1, 147, .inl fs)), (mk, .inl (g.2.1, 735, .inl kf))] H := hP
      have hD : va_D A [(mo, .inr (6, [.ref ms, .ref mr, .ref mk, .int (nI (min (km + 1) 5)), .ref mt, .int (nI ln), .int (nI sp), .int (nI rs), .int (nI ws), .ref mv, .ref me])), (ms, .inl (g.2.1, 147, .inl fs)), (mk, .inl (g.2.1, 735, .inl kf))] := hD
      refine lv_aload_n hx hb dX6_addOutput_30 rfl (lv_at hl 0 rfl) ?_
      refine va_get (D := D) (ci := 6) (v := .ref ms) (C := RX6) (T := TX6) (N := 11) hx hb hts hi6 hown hK hP 0 rfl rfl 0 (by decide) (hts (.fieldLink RX6 7 "SelfCheckingCircuitModel" "s" "[I") (by decide +kernel)) (fun _ h9 => h9) rfl dX6_addOutput_31 ?_
      refine lv_bipush (v := 75) hx hb dX6_addOutput_34 (by decide) ?_
      refine lv_aload_n hx hb dX6_addOutput_36 rfl (lv_at hl 0 rfl) ?_
      refine va_get (D := D) (ci := 6) (v := .ref ms) (C := RX6) (T := TX6) (N := 11) hx hb hts hi6 hown hK hP 0 rfl rfl 0 (by decide) (hts (.fieldLink RX6 7 "SelfCheckingCircuitModel" "s" "[I") (by decide +kernel)) (fun _ h9 => h9) rfl dX6_addOutput_37 ?_
      refine lv_bipush (v := 74) hx hb dX6_addOutput_40 (by decide) ?_
      refine va_iald hx hb hK hP 1 1 rfl rfl (by unfold vp_in; decide) dX6_addOutput_42 ?_
      refine hk_ti (fs 74) (congrArg fs (by decide)) ?_
      refine hk_ti (nI o) (hM.1.2.2.1) ?_
      refine lv_iadd hx hb dX6_addOutput_43 ?_
      refine hk_ti (nI (75 + o)) (nI_add 75 o) ?_
      refine lv_iload_n hx hb dX6_addOutput_44 rfl (lv_at hl 1 rfl) ?_
      refine va_iast hx hb hK hP hD hS 1 1 rfl rfl (vp_in_nI (N := 147) (by omega) (by decide)) dX6_addOutput_45 (fun H locs hP hD hS => ?_)
      rw [show (nI (75 + o)).toNatClampNeg = 75 + o from nI_clamp (by omega)] at hP hD
      have hP : va_P D vwCl [(mo, .inr (6, [.ref ms, .ref mr, .ref mk, .int (nI (min (km + 1) 5)), .ref mt, .int (nI ln), .int (nI sp), .int (nI rs), .int (nI ws), .ref mv, .ref me])), (ms, .inl (g.2.1, 147, .inl (upd fs (75 + o) (nI j)))), (mk, .inl (g.2.1, 735, .inl kf))] H := hP
      have hD : va_D A [(mo, .inr (6, [.ref ms, .ref mr, .ref mk, .int (nI (min (km + 1) 5)), .ref mt, .int (nI ln), .int (nI sp), .int (nI rs), .int (nI ws), .ref mv, .ref me])), (ms, .inl (g.2.1, 147, .inl (upd fs (75 + o) (nI j)))), (mk, .inl (g.2.1, 735, .inl kf))] := hD
      refine lv_aload_n hx hb dX6_addOutput_46 rfl (lv_at hl 0 rfl) ?_
      refine va_get (D := D) (ci := 6) (v := .ref ms) (C := RX6) (T := TX6) (N := 11) hx hb hts hi6 hown hK hP 0 rfl rfl 0 (by decide) (hts (.fieldLink RX6 7 "SelfCheckingCircuitModel" "s" "[I") (by decide +kernel)) (fun _ h9 => h9) rfl dX6_addOutput_47 ?_
      refine lv_bipush (v := 74) hx hb dX6_addOutput_50 (by decide) ?_
      refine lv_dup2_11 hx hb dX6_addOutput_52 rfl rfl ?_
      refine va_iald hx hb hK hP 1 1 rfl rfl (by unfold vp_in; decide) dX6_addOutput_53 ?_
      refine hk_ti ((upd fs (75 + o) (nI j)) 74) (congrArg (upd fs (75 + o) (nI j)) (by decide)) ?_
      refine hk_ti (nI o) (by rw [pk_un (by omega)]; exact hM.1.2.2.1) ?_
      refine lv_iconst (v := 1) hx hb dX6_addOutput_54 (by decide) ?_
      refine lv_iadd hx hb dX6_addOutput_55 ?_
      refine hk_ti (nI (o + 1)) (nI_1 o) ?_
      refine va_iast hx hb hK hP hD hS 1 1 rfl rfl (by unfold vp_in; decide) dX6_addOutput_56 (fun H locs hP hD hS => ?_)
      rw [show (74 : Int32).toNatClampNeg = 74 from by decide] at hP hD
      have hP : va_P D vwCl [(mo, .inr (6, [.ref ms, .ref mr, .ref mk, .int (nI (min (km + 1) 5)), .ref mt, .int (nI ln), .int (nI sp), .int (nI rs), .int (nI ws), .ref mv, .ref me])), (ms, .inl (g.2.1, 147, .inl (upd (upd fs (75 + o) (nI j)) 74 (nI (o + 1))))), (mk, .inl (g.2.1, 735, .inl kf))] H := hP
      have hD : va_D A [(mo, .inr (6, [.ref ms, .ref mr, .ref mk, .int (nI (min (km + 1) 5)), .ref mt, .int (nI ln), .int (nI sp), .int (nI rs), .int (nI ws), .ref mv, .ref me])), (ms, .inl (g.2.1, 147, .inl (upd (upd fs (75 + o) (nI j)) 74 (nI (o + 1))))), (mk, .inl (g.2.1, 735, .inl kf))] := hD
      refine lv_aload_n hx hb dX6_addOutput_57 rfl (lv_at hl 0 rfl) ?_
      refine va_get (D := D) (ci := 6) (v := .ref ms) (C := RX6) (T := TX6) (N := 11) hx hb hts hi6 hown hK hP 0 rfl rfl 0 (by decide) (hts (.fieldLink RX6 7 "SelfCheckingCircuitModel" "s" "[I") (by decide +kernel)) (fun _ h9 => h9) rfl dX6_addOutput_58 ?_
      refine lv_bipush (v := 74) hx hb dX6_addOutput_61 (by decide) ?_
      refine va_iald hx hb hK hP 1 1 rfl rfl (by unfold vp_in; decide) dX6_addOutput_63 ?_
      refine hk_ti ((upd (upd fs (75 + o) (nI j)) 74 (nI (o + 1))) 74) (congrArg (upd (upd fs (75 + o) (nI j)) 74 (nI (o + 1))) (by decide)) ?_
      refine hk_ti (nI (o + 1)) (pk_us) ?_
      have hP9 := hP.sub (ws' := [(mo, .inr (6, [.ref ms, .ref mr, .ref mk, .int (nI (min (km + 1) 5)), .ref mt, .int (nI ln), .int (nI sp), .int (nI rs), .int (nI ws), .ref mv, .ref me])), (ms, .inl (g.2.1, 147, .inl (upd (upd fs (75 + o) (nI j)) 74 (nI (o + 1))))), (mk, .inl (g.2.1, 735, .inl kf))]) [0, 1, 2] rfl
      have hD9 := hD.sub (ws' := [(mo, .inr (6, [.ref ms, .ref mr, .ref mk, .int (nI (min (km + 1) 5)), .ref mt, .int (nI ln), .int (nI sp), .int (nI rs), .int (nI ws), .ref mv, .ref me])), (ms, .inl (g.2.1, 147, .inl (upd (upd fs (75 + o) (nI j)) 74 (nI (o + 1))))), (mk, .inl (g.2.1, 735, .inl kf))]) [0, 1, 2] (by decide) rfl
      exact W.iret (v := nI (o + 1)) hx hb hr (fun tt ht hW => ⟨⟨_, kf, rfl, ⟨rfl, hr_6⟩, by rw [ht]; exact hP9, hD9⟩, hS.F ht⟩) hS.2.2 dX6_addOutput_64
    · have c_4h : nI o = (6 : Int32) := c_4
      exact absurd (nI_inj (b := 6) c_4 (by omega) (by decide)) (by omega)
  · have c_3h : (bI (hn N (nI j))) = (0 : Int32) := c_3
    exact absurd (hn_t hj (by have := hC.2.2.2.1; have := hC.2.1; omega)) (by rw [bI_0.mp c_3]; decide)
set_option maxHeartbeats 4000000 in
set_option maxRecDepth 100000 in
theorem c6_addOutput_no (l : Launch) (D : va_G) (g : hk_G) (ti : Nat) (mo : Nat) (ms : Nat) (mr : Nat) (mk : Nat) (mt : Nat) (mv : Nat) (me : Nat) (fs : Nat → Int32) (km : Nat) (ln : Nat) (sp : Nat) (rs : Nat) (ws : Nat) (n : Nat) (N : Nat) (o : Nat) (cd : Nat) (wt : Nat) (ty : Nat → Nat) (pa : Nat → Nat) (pb : Nat → Nat) (vo : Nat → Nat) (nm : Int64) (v : Int32) (hC : Cok n N o cd wt) (hM : MR n N o cd wt ty pa pb vo nm fs) (hno : hn N v = false ∨ ¬ o < 6) : Met l yX6_addOutput wsX6_addOutput ({ frames := 2, cells := 0, slots := 0, locals := 46 }) (va_Pc [.ref mo, .int v] (hk_Ro D g ti [(mo, .inr (6, [.ref ms, .ref mr, .ref mk, .int (nI km), .ref mt, .int (nI ln), .int (nI sp), .int (nI rs), .int (nI ws), .ref mv, .ref me])), (ms, .inl (g.2.1, 147, .inl fs))])) (vp_Si (fun r => r = if hn N v = true then -103 else -101)) 0 0 (fun _ => False) := by
  refine Met.ofW (cc := cX6_addOutput) (maxL := 2) (ret := (some .int)) (by decide) rfl ?_
  intro p e s m args below meth c s₁ Bd hml hv
  obtain ⟨rfl, hP, hE⟩ := hv
  have hx := Bd.exec
  have hb := Bd.bytes
  have hr := Bd.returns
  have hts := atoms_spec (ws := wsX6_addOutput) Bd.pre
  have hown : s.vm.findClass RX6 = some m.cls := findClass_of_methodNamed Bd.named
  have hlocks := Bd.notSynchronized
  have hK := hE.1
  have hi6 : ∀ w ∈ wsX60, w ∈ wsX6_addOutput := fun w h => List.mem_cons_of_mem _ (List.mem_append_right _ h)
  have hS : va_S (fun _ => False) s.heap s.heap [] := va_S.rf
  have hl := lv_entry ([.ref mo, .int v]) (n := 2) (Nat.le_of_ble_eq_true rfl)
  rw [lg_entry_eq]
  generalize (lg_sl ([.ref mo, .int v]) ++ List.replicate (2 - (lg_sl ([.ref mo, .int v])).length) Slot.unset).toArray = ls at hl ⊢
  have hl : lv_has ls 2 [(0, .ref mo), (1, .int v)] := hl
  refine lv_aload_n hx hb dX6_addOutput_0 rfl (lv_at hl 0 rfl) ?_
  refine lv_iload_n hx hb dX6_addOutput_1 rfl (lv_at hl 1 rfl) ?_
  refine hk_csi (va_runV (As := [.int v]) (rest := []) ⟨hx, hb, hml, hown, hts⟩ (c6_isNode l D g ti mo ms mr mk mt mv me fs km ln sp rs ws n N o cd wt ty pa pb vo nm v hC hM) (cwV 1 hts gX6_addOutput_X6_isNode rfl rfl rfl (by decide +kernel) ⟨Nat.le_of_ble_eq_true rfl, Nat.le_of_ble_eq_true rfl⟩) (hk_roV hE hP hS 6 rfl rfl [0, 1] rfl rfl) rfl rfl hl.1 rfl (lv_room (Nat.le_of_ble_eq_true rfl)) dX6_addOutput_2 ⟨Nat.zero_le _, Nat.zero_le _⟩) (fun r_1 hr_2 => ?_)
  subst hr_2
  refine lv_if_ne (tgt := 11) hx hb dX6_addOutput_5 (by decide) (fun c_3 => ?_) (fun c_3 => ?_)
  · have c_3h : ¬ (bI (hn N v)) = (0 : Int32) := c_3
    refine lv_aload_n hx hb dX6_addOutput_11 rfl (lv_at hl 0 rfl) ?_
    refine va_get (D := D) (ci := 6) (v := .ref ms) (C := RX6) (T := TX6) (N := 11) hx hb hts hi6 hown hK hP 0 rfl rfl 0 (by decide) (hts (.fieldLink RX6 7 "SelfCheckingCircuitModel" "s" "[I") (by decide +kernel)) (fun _ h9 => h9) rfl dX6_addOutput_12 ?_
    refine lv_bipush (v := 74) hx hb dX6_addOutput_15 (by decide) ?_
    refine va_iald hx hb hK hP 1 1 rfl rfl (by unfold vp_in; decide) dX6_addOutput_17 ?_
    refine hk_ti (fs 74) (congrArg fs (by decide)) ?_
    refine hk_ti (nI o) (hM.1.2.2.1) ?_
    refine lv_bipush (v := 6) hx hb dX6_addOutput_18 (by decide) ?_
    refine lv_icmp_ne (tgt := 26) hx hb dX6_addOutput_20 (by decide) (fun c_4 => ?_) (fun c_4 => ?_)
    · have c_4h : ¬ nI o = (6 : Int32) := c_4
      exact absurd (by rw [show o = 6 by have := hno.resolve_left (by rw [bI_n0 c_3]; decide); have := hC.2.2.2.2.1; omega]; rfl) c_4
    · have c_4h : nI o = (6 : Int32) := c_4
      refine lv_bipush (v := (-103)) hx hb dX6_addOutput_23 (by decide) ?_
      exact W.iret (v := (-103)) hx hb hr (fun tt ht hW => ⟨_, rfl, by rw [if_pos (bI_n0 c_3)], ht⟩) (fun _ h => by cases h) dX6_addOutput_25
  · have c_3h : (bI (hn N v)) = (0 : Int32) := c_3
    refine lv_bipush (v := (-101)) hx hb dX6_addOutput_8 (by decide) ?_
    exact W.iret (v := (-101)) hx hb hr (fun tt ht hW => ⟨_, rfl, by rw [if_neg (by rw [bI_0.mp c_3]; decide)], ht⟩) (fun _ h => by cases h) dX6_addOutput_10
set_option maxHeartbeats 4000000 in
set_option maxRecDepth 100000 in
theorem c6_clearOutputs (l : Launch) (D : va_G) (g : hk_G) (ti : Nat) (sz : Nat) (mo : Nat) (ms : Nat) (mr : Nat) (mk : Nat) (mt : Nat) (mv : Nat) (me : Nat) (fs : Nat → Int32) (km : Nat) (ln : Nat) (sp : Nat) (rs : Nat) (ws : Nat) (fk : Nat → Int32) (n : Nat) (N : Nat) (o : Nat) (cd : Nat) (wt : Nat) (ty : Nat → Nat) (pa : Nat → Nat) (pb : Nat → Nat) (vo : Nat → Nat) (nm : Int64) (hC : Cok n N o cd wt) (hM : MR n N o cd wt ty pa pb vo nm fs) (hkm : km ≤ 5) : Met l yX6_clearOutputs wsX6_clearOutputs ({ frames := 1, cells := 0, slots := 0, locals := 21 }) (va_Pc [.ref mo] (hk_In D g ti [(mo, .inr (6, [.ref ms, .ref mr, .ref mk, .int (nI km), .ref mt, .int (nI ln), .int (nI sp), .int (nI rs), .int (nI ws), .ref mv, .ref me])), (ms, .inl (g.2.1, 147, .inl fs)), (mk, .inl (g.2.1, 735, .inl fk))] sz)) (va_Qi (S := Nat → Int32) (fun r f' => r = nI o ∧ KP fk fs f' km) (fun u => hk_Out D (va_A [(mo, .inr (6, [.ref ms, .ref mr, .ref mk, .int (nI km), .ref mt, .int (nI ln), .int (nI sp), .int (nI rs), .int (nI ws), .ref mv, .ref me])), (ms, .inl (g.2.1, 147, .inl fs)), (mk, .inl (g.2.1, 735, .inl fk))] sz) (match u with | f' => [(mo, .inr (6, [.ref ms, .ref mr, .ref mk, .int (nI (min (km + 1) 5)), .ref mt, .int (nI ln), .int (nI sp), .int (nI rs), .int (nI ws), .ref mv, .ref me])), (ms, .inl (g.2.1, 147, .inl (upd fs 74 0))), (mk, .inl (g.2.1, 735, .inl f'))])) (va_A [(mo, .inr (6, [.ref ms, .ref mr, .ref mk, .int (nI km), .ref mt, .int (nI ln), .int (nI sp), .int (nI rs), .int (nI ws), .ref mv, .ref me])), (ms, .inl (g.2.1, 147, .inl fs)), (mk, .inl (g.2.1, 735, .inl fk))] sz)) 0 0 (va_A [(mo, .inr (6, [.ref ms, .ref mr, .ref mk, .int (nI km), .ref mt, .int (nI ln), .int (nI sp), .int (nI rs), .int (nI ws), .ref mv, .ref me])), (ms, .inl (g.2.1, 147, .inl fs)), (mk, .inl (g.2.1, 735, .inl fk))] sz) := by
  refine Met.ofW (cc := cX6_clearOutputs) (maxL := 2) (ret := (some .int)) (by decide) rfl ?_
  intro p e s m args below meth c s₁ Bd hml hv
  obtain ⟨rfl, hsz, hP, hD0, hE⟩ := hv
  have hx := Bd.exec
  have hb := Bd.bytes
  have hr := Bd.returns
  have hts := atoms_spec (ws := wsX6_clearOutputs) Bd.pre
  have hown : s.vm.findClass RX6 = some m.cls := findClass_of_methodNamed Bd.named
  have hlocks := Bd.notSynchronized
  have hK := hE.1
  have hi6 : ∀ w ∈ wsX60, w ∈ wsX6_clearOutputs := fun w h => List.mem_cons_of_mem _ (List.mem_append_right _ h)
  subst hsz
  have hD := hD0.self (sz := s.heap.size)
  generalize hAe : va_A [(mo, .inr (6, [.ref ms, .ref mr, .ref mk, .int (nI km), .ref mt, .int (nI ln), .int (nI sp), .int (nI rs), .int (nI ws), .ref mv, .ref me])), (ms, .inl (g.2.1, 147, .inl fs)), (mk, .inl (g.2.1, 735, .inl fk))] s.heap.size = A at hD hE ⊢
  have hA : ∀ q : Nat, s.heap.size ≤ q → A q := fun q h => by rw [← hAe]; exact Or.inr h
  have hS : va_S A s.heap s.heap [] := va_S.rf
  have hl := lv_entry ([.ref mo]) (n := 2) (Nat.le_of_ble_eq_true rfl)
  rw [lg_entry_eq]
  generalize (lg_sl ([.ref mo]) ++ List.replicate (2 - (lg_sl ([.ref mo])).length) Slot.unset).toArray = ls at hl ⊢
  have hl : lv_has ls 2 [(0, .ref mo)] := hl
  refine lv_aload_n hx hb dX6_clearOutputs_0 rfl (lv_at hl 0 rfl) ?_
  refine hk_cmv (wr := []) (va_runV (As := []) (rest := []) ⟨hx, hb, hml, hown, hts⟩ (c6_keeps l D g ti _ mo ms mr mk mt mv me fs km ln sp rs ws fk hkm) (cwV 0 hts gX6_clearOutputs_X6_keeps rfl rfl rfl (by decide +kernel) ⟨Nat.le_of_ble_eq_true rfl, Nat.le_of_ble_eq_true rfl⟩) (hk_inV hE hP hD hS hA 6 rfl rfl [0, 1, 2] (by decide) rfl rfl) rfl rfl hl.1 rfl (lv_room (Nat.le_of_ble_eq_true rfl)) dX6_clearOutputs_1 ⟨Nat.zero_le _, Nat.zero_le _⟩) hP hD hS hA [0, 1, 2] [] rfl rfl (by decide) (by decide) (fun kf H locs hr_2 hP hD hS => ?_)
  try dsimp only at hr_2
  have hP : va_P D vwCl [(mo, .inr (6, [.ref ms, .ref mr, .ref mk, .int (nI (min (km + 1) 5)), .ref mt, .int (nI ln), .int (nI sp), .int (nI rs), .int (nI ws), .ref mv, .ref me])), (ms, .inl (g.2.1, 147, .inl fs)), (mk, .inl (g.2.1, 735, .inl kf))] H := hP
  have hD : va_D A [(mo, .inr (6, [.ref ms, .ref mr, .ref mk, .int (nI (min (km + 1) 5)), .ref mt, .int (nI ln), .int (nI sp), .int (nI rs), .int (nI ws), .ref mv, .ref me])), (ms, .inl (g.2.1, 147, .inl fs)), (mk, .inl (g.2.1, 735, .inl kf))] := hD
  refine lv_aload_n hx hb dX6_clearOutputs_4 rfl (lv_at hl 0 rfl) ?_
  refine va_get (D := D) (ci := 6) (v := .ref ms) (C := RX6) (T := TX6) (N := 11) hx hb hts hi6 hown hK hP 0 rfl rfl 0 (by decide) (hts (.fieldLink RX6 7 "SelfCheckingCircuitModel" "s" "[I") (by decide +kernel)) (fun _ h9 => h9) rfl dX6_clearOutputs_5 ?_
  refine lv_bipush (v := 74) hx hb dX6_clearOutputs_8 (by decide) ?_
  refine va_iald hx hb hK hP 1 1 rfl rfl (by unfold vp_in; decide) dX6_clearOutputs_10 ?_
  refine hk_ti (fs 74) (congrArg fs (by decide)) ?_
  refine hk_ti (nI o) (hM.1.2.2.1) ?_
  refine lv_istore_n (lv' := [(1, .int (nI o)), (0, .ref mo)]) hx hb dX6_clearOutputs_11 rfl hl (by decide) rfl (fun ls hl => ?_)
  refine lv_aload_n hx hb dX6_clearOutputs_12 rfl (lv_at hl 1 rfl) ?_
  refine va_get (D := D) (ci := 6) (v := .ref ms) (C := RX6) (T := TX6) (N := 11) hx hb hts hi6 hown hK hP 0 rfl rfl 0 (by decide) (hts (.fieldLink RX6 7 "SelfCheckingCircuitModel" "s" "[I") (by decide +kernel)) (fun _ h9 => h9) rfl dX6_clearOutputs_13 ?_
  refine lv_bipush (v := 74) hx hb dX6_clearOutputs_16 (by decide) ?_
  refine lv_iconst (v := 0) hx hb dX6_clearOutputs_18 (by decide) ?_
  refine va_iast hx hb hK hP hD hS 1 1 rfl rfl (by unfold vp_in; decide) dX6_clearOutputs_19 (fun H locs hP hD hS => ?_)
  rw [show (74 : Int32).toNatClampNeg = 74 from by decide] at hP hD
  have hP : va_P D vwCl [(mo, .inr (6, [.ref ms, .ref mr, .ref mk, .int (nI (min (km + 1) 5)), .ref mt, .int (nI ln), .int (nI sp), .int (nI rs), .int (nI ws), .ref mv, .ref me])), (ms, .inl (g.2.1, 147, .inl (upd fs 74 0))), (mk, .inl (g.2.1, 735, .inl kf))] H := hP
  have hD : va_D A [(mo, .inr (6, [.ref ms, .ref mr, .ref mk, .int (nI (min (km + 1) 5)), .ref mt, .int (nI ln), .int (nI sp), .int (nI rs), .int (nI ws), .ref mv, .ref me])), (ms, .inl (g.2.1, 147, .inl (upd fs 74 0))), (mk, .inl (g.2.1, 735, .inl kf))] := hD
  refine lv_iload_n hx hb dX6_clearOutputs_20 rfl (lv_at hl 0 rfl) ?_
  have hP9 := hP.sub (ws' := [(mo, .inr (6, [.ref ms, .ref mr, .ref mk, .int (nI (min (km + 1) 5)), .ref mt, .int (nI ln), .int (nI sp), .int (nI rs), .int (nI ws), .ref mv, .ref me])), (ms, .inl (g.2.1, 147, .inl (upd fs 74 0))), (mk, .inl (g.2.1, 735, .inl kf))]) [0, 1, 2] rfl
  have hD9 := hD.sub (ws' := [(mo, .inr (6, [.ref ms, .ref mr, .ref mk, .int (nI (min (km + 1) 5)), .ref mt, .int (nI ln), .int (nI sp), .int (nI rs), .int (nI ws), .ref mv, .ref me])), (ms, .inl (g.2.1, 147, .inl (upd fs 74 0))), (mk, .inl (g.2.1, 735, .inl kf))]) [0, 1, 2] (by decide) rfl
  exact W.iret (v := nI o) hx hb hr (fun tt ht hW => ⟨⟨_, kf, rfl, ⟨rfl, hr_2⟩, by rw [ht]; exact hP9, hD9⟩, hS.F ht⟩) hS.2.2 dX6_clearOutputs_21
set_option maxHeartbeats 4000000 in
set_option maxRecDepth 100000 in
theorem c6_setCode (l : Launch) (D : va_G) (g : hk_G) (ti : Nat) (sz : Nat) (mo : Nat) (ms : Nat) (mr : Nat) (mk : Nat) (mt : Nat) (mv : Nat) (me : Nat) (fs : Nat → Int32) (km : Nat) (ln : Nat) (sp : Nat) (rs : Nat) (ws : Nat) (fk : Nat → Int32) (n : Nat) (N : Nat) (o : Nat) (cd : Nat) (wt : Nat) (ty : Nat → Nat) (pa : Nat → Nat) (pb : Nat → Nat) (vo : Nat → Nat) (nm : Int64) (c1 : Nat) (m1 : Nat) (hC : Cok n N o cd wt) (hM : MR n N o cd wt ty pa pb vo nm fs) (hkm : km ≤ 5) (hc1 : c1 ≤ 3) (hm1 : m1 ≤ 6) : Met l yX6_setCode wsX6_setCode ({ frames := 1, cells := 0, slots := 0, locals := 25 }) (va_Pc [.ref mo, .int (nI c1), .int (nI m1)] (hk_In D g ti [(mo, .inr (6, [.ref ms, .ref mr, .ref mk, .int (nI km), .ref mt, .int (nI ln), .int (nI sp), .int (nI rs), .int (nI ws), .ref mv, .ref me])), (ms, .inl (g.2.1, 147, .inl fs)), (mk, .inl (g.2.1, 735, .inl fk))] sz)) (va_Qi (S := Nat → Int32) (fun r f' => r = nI cd ∧ KP fk fs f' km) (fun u => hk_Out D (va_A [(mo, .inr (6, [.ref ms, .ref mr, .ref mk, .int (nI km), .ref mt, .int (nI ln), .int (nI sp), .int (nI rs), .int (nI ws), .ref mv, .ref me])), (ms, .inl (g.2.1, 147, .inl fs)), (mk, .inl (g.2.1, 735, .inl fk))] sz) (match u with | f' => [(mo, .inr (6, [.ref ms, .ref mr, .ref mk, .int (nI (min (km + 1) 5)), .ref mt, .int (nI ln), .int (nI sp), .int (nI rs), .int (nI ws), .ref mv, .ref me])), (ms, .inl (g.2.1, 147, .inl (upd (upd fs 81 (nI c1)) 82 (nI m1)))), (mk, .inl (g.2.1, 735, .inl f'))])) (va_A [(mo, .inr (6, [.ref ms, .ref mr, .ref mk, .int (nI km), .ref mt, .int (nI ln), .int (nI sp), .int (nI rs), .int (nI ws), .ref mv, .ref me])), (ms, .inl (g.2.1, 147, .inl fs)), (mk, .inl (g.2.1, 735, .inl fk))] sz)) 0 0 (va_A [(mo, .inr (6, [.ref ms, .ref mr, .ref mk, .int (nI km), .ref mt, .int (nI ln), .int (nI sp), .int (nI rs), .int (nI ws), .ref mv, .ref me])), (ms, .inl (g.2.1, 147, .inl fs)), (mk, .inl (g.2.1, 735, .inl fk))] sz) := by
  refine Met.ofW (cc := cX6_setCode) (maxL := 4) (ret := (some .int)) (by decide) rfl ?_
  intro p e s m args below meth c s₁ Bd hml hv
  obtain ⟨rfl, hsz, hP, hD0, hE⟩ := hv
  have hx := Bd.exec
  have hb := Bd.bytes
  have hr := Bd.returns
  have hts := atoms_spec (ws := wsX6_setCode) Bd.pre
  have hown : s.vm.findClass RX6 = some m.cls := findClass_of_methodNamed Bd.named
  have hlocks := Bd.notSynchronized
  have hK := hE.1
  have hi6 : ∀ w ∈ wsX60, w ∈ wsX6_setCode := fun w h => List.mem_cons_of_mem _ (List.mem_append_right _ h)
  subst hsz
  have hD := hD0.self (sz := s.heap.size)
  generalize hAe : va_A [(mo, .inr (6, [.ref ms, .ref mr, .ref mk, .int (nI km), .ref mt, .int (nI ln), .int (nI sp), .int (nI rs), .int (nI ws), .ref mv, .ref me])), (ms, .inl (g.2.1, 147, .inl fs)), (mk, .inl (g.2.1, 735, .inl fk))] s.heap.size = A at hD hE ⊢
  have hA : ∀ q : Nat, s.heap.size ≤ q → A q := fun q h => by rw [← hAe]; exact Or.inr h
  have hS : va_S A s.heap s.heap [] := va_S.rf
  have hl := lv_entry ([.ref mo, .int (nI c1), .int (nI m1)]) (n := 4) (Nat.le_of_ble_eq_true rfl)
  rw [lg_entry_eq]
  generalize (lg_sl ([.ref mo, .int (nI c1), .int (nI m1)]) ++ List.replicate (4 - (lg_sl ([.ref mo, .int (nI c1), .int (nI m1)])).length) Slot.unset).toArray = ls at hl ⊢
  have hl : lv_has ls 4 [(0, .ref mo), (1, .int (nI c1)), (2, .int (nI m1))] := hl
  refine lv_iload_n hx hb dX6_setCode_0 rfl (lv_at hl 1 rfl) ?_
  refine lv_i2l hx hb dX6_setCode_1 rfl ?_
  refine lv_lconst (v := 0) hx hb dX6_setCode_2 (by decide) ?_
  refine lv_ldc2 (own := RX6) (v := (3)) hx hb hown (hts (.constantLong RX6 112 (3)) (by decide +kernel)) dX6_setCode_3 ?_
  refine hk_csi (va_runS (As := [.long ((nI c1).toInt64), .long 0, .long (3)]) (rest := []) ⟨hx, hb, hml, hown, hts⟩ (c6_in l D g ti ((nI c1).toInt64) 0 (3) ) (va_cwS 3 hts gX6_setCode_X6_in rfl rfl rfl (by decide +kernel) ⟨Nat.le_of_ble_eq_true rfl, Nat.le_of_ble_eq_true rfl⟩) (hk_roS hE hP hS [] rfl) rfl rfl hl.1 rfl (lv_room (Nat.le_of_ble_eq_true rfl)) dX6_setCode_6 ⟨Nat.zero_le _, Nat.zero_le _⟩) (fun r_1 hr_2 => ?_)
  subst hr_2
  refine hk_ti (bI (hn 4 (nI c1))) (by rw [inL_c 3]) ?_
  refine lv_if_eq (tgt := 24) hx hb dX6_setCode_9 (by decide) (fun c_3 => ?_) (fun c_3 => ?_)
  · have c_3h : bI (hn 4 (nI c1)) = (0 : Int32) := c_3
    exact absurd (hn_t (N := 4) (j := c1) (by omega) (by decide)) (by rw [bI_0.mp c_3]; decide)
  · have c_3h : ¬ bI (hn 4 (nI c1)) = (0 : Int32) := c_3
    refine lv_iload_n hx hb dX6_setCode_12 rfl (lv_at hl 2 rfl) ?_
    refine lv_i2l hx hb dX6_setCode_13 rfl ?_
    refine lv_lconst (v := 0) hx hb dX6_setCode_14 (by decide) ?_
    refine lv_ldc2 (own := RX6) (v := (6)) hx hb hown (hts (.constantLong RX6 83 (6)) (by decide +kernel)) dX6_setCode_15 ?_
    refine hk_csi (va_runS (As := [.long ((nI m1).toInt64), .long 0, .long (6)]) (rest := []) ⟨hx, hb, hml, hown, hts⟩ (c6_in l D g ti ((nI m1).toInt64) 0 (6) ) (va_cwS 3 hts gX6_setCode_X6_in rfl rfl rfl (by decide +kernel) ⟨Nat.le_of_ble_eq_true rfl, Nat.le_of_ble_eq_true rfl⟩) (hk_roS hE hP hS [] rfl) rfl rfl hl.1 rfl (lv_room (Nat.le_of_ble_eq_true rfl)) dX6_setCode_18 ⟨Nat.zero_le _, Nat.zero_le _⟩) (fun r_4 hr_5 => ?_)
    subst hr_5
    refine hk_ti (bI (hn 7 (nI m1))) (by rw [inL_c 6]) ?_
    refine lv_if_ne (tgt := 27) hx hb dX6_setCode_21 (by decide) (fun c_6 => ?_) (fun c_6 => ?_)
    · have c_6h : ¬ bI (hn 7 (nI m1)) = (0 : Int32) := c_6
      refine lv_aload_n hx hb dX6_setCode_27 rfl (lv_at hl 0 rfl) ?_
      refine hk_cmv (wr := []) (va_runV (As := []) (rest := []) ⟨hx, hb, hml, hown, hts⟩ (c6_keeps l D g ti _ mo ms mr mk mt mv me fs km ln sp rs ws fk hkm) (cwV 0 hts gX6_setCode_X6_keeps rfl rfl rfl (by decide +kernel) ⟨Nat.le_of_ble_eq_true rfl, Nat.le_of_ble_eq_true rfl⟩) (hk_inV hE hP hD hS hA 6 rfl rfl [0, 1, 2] (by decide) rfl rfl) rfl rfl hl.1 rfl (lv_room (Nat.le_of_ble_eq_true rfl)) dX6_setCode_28 ⟨Nat.zero_le _, Nat.zero_le _⟩) hP hD hS hA [0, 1, 2] [] rfl rfl (by decide) (by decide) (fun kf H locs hr_8 hP hD hS => ?_)
      try dsimp only at hr_8
      have hP : va_P D vwCl [(mo, .inr (6, [.ref ms, .ref mr, .ref mk, .int (nI (min (km + 1) 5)), .ref mt, .int (nI ln), .int (nI sp), .int (nI rs), .int (nI ws), .ref mv, .ref me])), (ms, .inl (g.2.1, 147, .inl fs)), (mk, .inl (g.2.1, 735, .inl kf))] H := hP
      have hD : va_D A [(mo, .inr (6, [.ref ms, .ref mr, .ref mk, .int (nI (min (km + 1) 5)), .ref mt, .int (nI ln), .int (nI sp), .int (nI rs), .int (nI ws), .ref mv, .ref me])), (ms, .inl (g.2.1, 147, .inl fs)), (mk, .inl (g.2.1, 735, .inl kf))] := hD
      refine lv_aload_n hx hb dX6_setCode_31 rfl (lv_at hl 0 rfl) ?_
      refine va_get (D := D) (ci := 6) (v := .ref ms) (C := RX6) (T := TX6) (N := 11) hx hb hts hi6 hown hK hP 0 rfl rfl 0 (by decide) (hts (.fieldLink RX6 7 "SelfCheckingCircuitModel" "s" "[I") (by decide +kernel)) (fun _ h9 => h9) rfl dX6_setCode_32 ?_
      refine lv_bipush (v := 81) hx hb dX6_setCode_35 (by decide) ?_
      refine va_iald hx hb hK hP 1 1 rfl rfl (by unfold vp_in; decide) dX6_setCode_37 ?_
      refine hk_ti (fs 81) (congrArg fs (by decide)) ?_
      refine hk_ti (nI cd) (hM.1.2.2.2.1) ?_
      refine lv_istore_n (lv' := [(3, .int (nI cd)), (0, .ref mo), (1, .int (nI c1)), (2, .int (nI m1))]) hx hb dX6_setCode_38 rfl hl (by decide) rfl (fun ls hl => ?_)
      refine lv_aload_n hx hb dX6_setCode_39 rfl (lv_at hl 1 rfl) ?_
      refine va_get (D := D) (ci := 6) (v := .ref ms) (C := RX6) (T := TX6) (N := 11) hx hb hts hi6 hown hK hP 0 rfl rfl 0 (by decide) (hts (.fieldLink RX6 7 "SelfCheckingCircuitModel" "s" "[I") (by decide +kernel)) (fun _ h9 => h9) rfl dX6_setCode_40 ?_
      refine lv_bipush (v := 81) hx hb dX6_setCode_43 (by decide) ?_
      refine lv_iload_n hx hb dX6_setCode_45 rfl (lv_at hl 2 rfl) ?_
      refine va_iast hx hb hK hP hD hS 1 1 rfl rfl (by unfold vp_in; decide) dX6_setCode_46 (fun H locs hP hD hS => ?_)
      rw [show (81 : Int32).toNatClampNeg = 81 from by decide] at hP hD
      have hP : va_P D vwCl [(mo, .inr (6, [.ref ms, .ref mr, .ref mk, .int (nI (min (km + 1) 5)), .ref mt, .int (nI ln), .int (nI sp), .int (nI rs), .int (nI ws), .ref mv, .ref me])), (ms, .inl (g.2.1, 147, .inl (upd fs 81 (nI c1)))), (mk, .inl (g.2.1, 735, .inl kf))] H := hP
      have hD : va_D A [(mo, .inr (6, [.ref ms, .ref mr, .ref mk, .int (nI (min (km + 1) 5)), .ref mt, .int (nI ln), .int (nI sp), .int (nI rs), .int (nI ws), .ref mv, .ref me])), (ms, .inl (g.2.1, 147, .inl (upd fs 81 (nI c1)))), (mk, .inl (g.2.1, 735, .inl kf))] := hD
      refine lv_aload_n hx hb dX6_setCode_47 rfl (lv_at hl 1 rfl) ?_
      refine va_get (D := D) (ci := 6) (v := .ref ms) (C := RX6) (T := TX6) (N := 11) hx hb hts hi6 hown hK hP 0 rfl rfl 0 (by decide) (hts (.fieldLink RX6 7 "SelfCheckingCircuitModel" "s" "[I") (by decide +kernel)) (fun _ h9 => h9) rfl dX6_setCode_48 ?_
      refine lv_bipush (v := 82) hx hb dX6_setCode_51 (by decide) ?_
      refine lv_iload_n hx hb dX6_setCode_53 rfl (lv_at hl 3 rfl) ?_
      refine va_iast hx hb hK hP hD hS 1 1 rfl rfl (by unfold vp_in; decide) dX6_setCode_54 (fun H locs hP hD hS => ?_)
      rw [show (82 : Int32).toNatClampNeg = 82 from by decide] at hP hD
      have hP : va_P D vwCl [(mo, .inr (6, [.ref ms, .ref mr, .ref mk, .int (nI (min (km + 1) 5)), .ref mt, .int (nI ln), .int (nI sp), .int (nI rs), .int (nI ws), .ref mv, .ref me])), (ms, .inl (g.2.1, 147, .inl (upd (upd fs 81 (nI c1)) 82 (nI m1)))), (mk, .inl (g.2.1, 735, .inl kf))] H := hP
      have hD : va_D A [(mo, .inr (6, [.ref ms, .ref mr, .ref mk, .int (nI (min (km + 1) 5)), .ref mt, .int (nI ln), .int (nI sp), .int (nI rs), .int (nI ws), .ref mv, .ref me])), (ms, .inl (g.2.1, 147, .inl (upd (upd fs 81 (nI c1)) 82 (nI m1)))), (mk, .inl (g.2.1, 735, .inl kf))] := hD
      refine lv_iload_n hx hb dX6_setCode_55 rfl (lv_at hl 0 rfl) ?_
      have hP9 := hP.sub (ws' := [(mo, .inr (6, [.ref ms, .ref mr, .ref mk, .int (nI (min (km + 1) 5)), .ref mt, .int (nI ln), .int (nI sp), .int (nI rs), .int (nI ws), .ref mv, .ref me])), (ms, .inl (g.2.1, 147, .inl (upd (upd fs 81 (nI c1)) 82 (nI m1)))), (mk, .inl (g.2.1, 735, .inl kf))]) [0, 1, 2] rfl
      have hD9 := hD.sub (ws' := [(mo, .inr (6, [.ref ms, .ref mr, .ref mk, .int (nI (min (km + 1) 5)), .ref mt, .int (nI ln), .int (nI sp), .int (nI rs), .int (nI ws), .ref mv, .ref me])), (ms, .inl (g.2.1, 147, .inl (upd (upd fs 81 (nI c1)) 82 (nI m1)))), (mk, .inl (g.2.1, 735, .inl kf))]) [0, 1, 2] (by decide) rfl
      exact W.iret (v := nI cd) hx hb hr (fun tt ht hW => ⟨⟨_, kf, rfl, ⟨rfl, hr_8⟩, by rw [ht]; exact hP9, hD9⟩, hS.F ht⟩) hS.2.2 dX6_setCode_56
    · have c_6h : bI (hn 7 (nI m1)) = (0 : Int32) := c_6
      exact absurd (hn_t (N := 7) (j := m1) (by omega) (by decide)) (by rw [bI_0.mp c_6]; decide)
set_option maxHeartbeats 4000000 in
set_option maxRecDepth 100000 in
theorem c6_setCode_no (l : Launch) (D : va_G) (g : hk_G) (ti : Nat) (mo : Nat) (ms : Nat) (mr : Nat) (mk : Nat) (mt : Nat) (mv : Nat) (me : Nat) (fs : Nat → Int32) (km : Nat) (ln : Nat) (sp : Nat) (rs : Nat) (ws : Nat) (n : Nat) (N : Nat) (o : Nat) (cd : Nat) (wt : Nat) (ty : Nat → Nat) (pa : Nat → Nat) (pb : Nat → Nat) (vo : Nat → Nat) (nm : Int64) (c1 : Int32) (m1 : Int32) (hC : Cok n N o cd wt) (hM : MR n N o cd wt ty pa pb vo nm fs) (hno : hn 4 c1 = false ∨ hn 7 m1 = false) : Met l yX6_setCode wsX6_setCode ({ frames := 1, cells := 0, slots := 0, locals := 25 }) (va_Pc [.ref mo, .int c1, .int m1] (hk_Ro D g ti [(mo, .inr (6, [.ref ms, .ref mr, .ref mk, .int (nI km), .ref mt, .int (nI ln), .int (nI sp), .int (nI rs), .int (nI ws), .ref mv, .ref me])), (ms, .inl (g.2.1, 147, .inl fs))])) (vp_Si (fun r => r = -101)) 0 0 (fun _ => False) := by
  refine Met.ofW (cc := cX6_setCode) (maxL := 4) (ret := (some .int)) (by decide) rfl ?_
  intro p e s m args below meth c s₁ Bd hml hv
  obtain ⟨rfl, hP, hE⟩ := hv
  have hx := Bd.exec
  have hb := Bd.bytes
  have hr := Bd.returns
  have hts := atoms_spec (ws := wsX6_setCode) Bd.pre
  have hown : s.vm.findClass RX6 = some m.cls := findClass_of_methodNamed Bd.named
  have hlocks := Bd.notSynchronized
  have hK := hE.1
  have hS : va_S (fun _ => False) s.heap s.heap [] := va_S.rf
  have hl := lv_entry ([.ref mo, .int c1, .int m1]) (n := 4) (Nat.le_of_ble_eq_true rfl)
  rw [lg_entry_eq]
  generalize (lg_sl ([.ref mo, .int c1, .int m1]) ++ List.replicate (4 - (lg_sl ([.ref mo, .int c1, .int m1])).length) Slot.unset).toArray = ls at hl ⊢
  have hl : lv_has ls 4 [(0, .ref mo), (1, .int c1), (2, .int m1)] := hl
  refine lv_iload_n hx hb dX6_setCode_0 rfl (lv_at hl 1 rfl) ?_
  refine lv_i2l hx hb dX6_setCode_1 rfl ?_
  refine lv_lconst (v := 0) hx hb dX6_setCode_2 (by decide) ?_
  refine lv_ldc2 (own := RX6) (v := (3)) hx hb hown (hts (.constantLong RX6 112 (3)) (by decide +kernel)) dX6_setCode_3 ?_
  refine hk_csi (va_runS (As := [.long c1.toInt64, .long 0, .long (3)]) (rest := []) ⟨hx, hb, hml, hown, hts⟩ (c6_in l D g ti c1.toInt64 0 (3) ) (va_cwS 3 hts gX6_setCode_X6_in rfl rfl rfl (by decide +kernel) ⟨Nat.le_of_ble_eq_true rfl, Nat.le_of_ble_eq_true rfl⟩) (hk_roS hE hP hS [] rfl) rfl rfl hl.1 rfl (lv_room (Nat.le_of_ble_eq_true rfl)) dX6_setCode_6 ⟨Nat.zero_le _, Nat.zero_le _⟩) (fun r_1 hr_2 => ?_)
  subst hr_2
  refine hk_ti (bI (hn 4 c1)) (by rw [inL_c 3]) ?_
  refine lv_if_eq (tgt := 24) hx hb dX6_setCode_9 (by decide) (fun c_3 => ?_) (fun c_3 => ?_)
  · have c_3h : bI (hn 4 c1) = (0 : Int32) := c_3
    refine lv_bipush (v := (-101)) hx hb dX6_setCode_24 (by decide) ?_
    exact W.iret (v := (-101)) hx hb hr (fun tt ht hW => ⟨_, rfl, rfl, ht⟩) (fun _ h => by cases h) dX6_setCode_26
  · have c_3h : ¬ bI (hn 4 c1) = (0 : Int32) := c_3
    refine lv_iload_n hx hb dX6_setCode_12 rfl (lv_at hl 2 rfl) ?_
    refine lv_i2l hx hb dX6_setCode_13 rfl ?_
    refine lv_lconst (v := 0) hx hb dX6_setCode_14 (by decide) ?_
    refine lv_ldc2 (own := RX6) (v := (6)) hx hb hown (hts (.constantLong RX6 83 (6)) (by decide +kernel)) dX6_setCode_15 ?_
    refine hk_csi (va_runS (As := [.long m1.toInt64, .long 0, .long (6)]) (rest := []) ⟨hx, hb, hml, hown, hts⟩ (c6_in l D g ti m1.toInt64 0 (6) ) (va_cwS 3 hts gX6_setCode_X6_in rfl rfl rfl (by decide +kernel) ⟨Nat.le_of_ble_eq_true rfl, Nat.le_of_ble_eq_true rfl⟩) (hk_roS hE hP hS [] rfl) rfl rfl hl.1 rfl (lv_room (Nat.le_of_ble_eq_true rfl)) dX6_setCode_18 ⟨Nat.zero_le _, Nat.zero_le _⟩) (fun r_4 hr_5 => ?_)
    subst hr_5
    refine hk_ti (bI (hn 7 m1)) (by rw [inL_c 6]) ?_
    refine lv_if_ne (tgt := 27) hx hb dX6_setCode_21 (by decide) (fun c_6 => ?_) (fun c_6 => ?_)
    · have c_6h : ¬ bI (hn 7 m1) = (0 : Int32) := c_6
      exact absurd (bI_0.mpr (hno.resolve_left (by rw [bI_n0 c_3]; decide))) c_6
    · have c_6h : bI (hn 7 m1) = (0 : Int32) := c_6
      refine lv_bipush (v := (-101)) hx hb dX6_setCode_24 (by decide) ?_
      exact W.iret (v := (-101)) hx hb hr (fun tt ht hW => ⟨_, rfl, rfl, ht⟩) (fun _ h => by cases h) dX6_setCode_26
theorem sn_0 {n N o cd wt i w : Nat} {ty pa pb vo : Nat → Nat} {nm : Int64} {fs : Nat → Int32} (hM : MR n N o cd wt ty pa pb vo nm fs) (hi : i < 64) : nI (ct (fun v => if v = w then false else lb nm v) i) + upd fs (83 + w) 0 (83 + i) = nI (ct (fun v => if v = w then false else lb nm v) (i + 1)) := by
  have e : upd fs (83 + w) 0 (83 + i) = bI ((fun v => if v = w then false else lb nm v) i) := by
    by_cases q : i = w
    · subst q; rw [pk_us]; simp only [if_true]; rfl
    · rw [pk_un (by omega)]; simp only [if_neg q]; exact hM.2.2.2 i hi
  rw [e]
  show _ = nI (ct (fun v => if v = w then false else lb nm v) i + (if (fun v => if v = w then false else lb nm v) i then 1 else 0))
  cases (fun v => if v = w then false else lb nm v) i
  · exact nI_add _ 0
  · exact nI_1 _
set_option maxHeartbeats 4000000 in
set_option maxRecDepth 100000 in
theorem c6_setNormal_0 (l : Launch) (D : va_G) (g : hk_G) (ti : Nat) (sz : Nat) (mo : Nat) (ms : Nat) (mr : Nat) (mk : Nat) (mt : Nat) (mv : Nat) (me : Nat) (fs : Nat → Int32) (km : Nat) (ln : Nat) (sp : Nat) (rs : Nat) (ws : Nat) (fk : Nat → Int32) (n : Nat) (N : Nat) (o : Nat) (cd : Nat) (wt : Nat) (ty : Nat → Nat) (pa : Nat → Nat) (pb : Nat → Nat) (vo : Nat → Nat) (nm : Int64) (w : Nat) (hC : Cok n N o cd wt) (hM : MR n N o cd wt ty pa pb vo nm fs) (hkm : km ≤ 5) (hw2 : w < 2 ^ n) (hw : w < 64) : Met l yX6_setNormal wsX6_setNormal ({ frames := 2, cells := 0, slots := 0, locals := 46 }) (va_Pc [.ref mo, .int (nI w), .int 0] (hk_In D g ti [(mo, .inr (6, [.ref ms, .ref mr, .ref mk, .int (nI km), .ref mt, .int (nI ln), .int (nI sp), .int (nI rs), .int (nI ws), .ref mv, .ref me])), (ms, .inl (g.2.1, 147, .inl fs)), (mk, .inl (g.2.1, 735, .inl fk))] sz)) (va_Qi (S := Nat → Int32) (fun r f' => r = nI (ct (fun v => if v = w then false else lb nm v) (2 ^ n)) ∧ KP fk fs f' km) (fun u => hk_Out D (va_A [(mo, .inr (6, [.ref ms, .ref mr, .ref mk, .int (nI km), .ref mt, .int (nI ln), .int (nI sp), .int (nI rs), .int (nI ws), .ref mv, .ref me])), (ms, .inl (g.2.1, 147, .inl fs)), (mk, .inl (g.2.1, 735, .inl fk))] sz) (match u with | f' => [(mo, .inr (6, [.ref ms, .ref mr, .ref mk, .int (nI (min (km + 1) 5)), .ref mt, .int (nI ln), .int (nI sp), .int (nI rs), .int (nI ws), .ref mv, .ref me])), (ms, .inl (g.2.1, 147, .inl (upd fs (83 + w) 0))), (mk, .inl (g.2.1, 735, .inl f'))])) (va_A [(mo, .inr (6, [.ref ms, .ref mr, .ref mk, .int (nI km), .ref mt, .int (nI ln), .int (nI sp), .int (nI rs), .int (nI ws), .ref mv, .ref me])), (ms, .inl (g.2.1, 147, .inl fs)), (mk, .inl (g.2.1, 735, .inl fk))] sz)) 0 0 (va_A [(mo, .inr (6, [.ref ms, .ref mr, .ref mk, .int (nI km), .ref mt, .int (nI ln), .int (nI sp), .int (nI rs), .int (nI ws), .ref mv, .ref me])), (ms, .inl (g.2.1, 147, .inl fs)), (mk, .inl (g.2.1, 735, .inl fk))] sz) := by
  refine Met.ofW (cc := cX6_setNormal) (maxL := 5) (ret := (some .int)) (by decide) rfl ?_
  intro p e s m args below meth c s₁ Bd hml hv
  obtain ⟨rfl, hsz, hP, hD0, hE⟩ := hv
  have hx := Bd.exec
  have hb := Bd.bytes
  have hr := Bd.returns
  have hts := atoms_spec (ws := wsX6_setNormal) Bd.pre
  have hown : s.vm.findClass RX6 = some m.cls := findClass_of_methodNamed Bd.named
  have hlocks := Bd.notSynchronized
  have hK := hE.1
  have hi6 : ∀ w ∈ wsX60, w ∈ wsX6_setNormal := fun w h => List.mem_cons_of_mem _ (List.mem_append_right _ h)
  subst hsz
  have hD := hD0.self (sz := s.heap.size)
  generalize hAe : va_A [(mo, .inr (6, [.ref ms, .ref mr, .ref mk, .int (nI km), .ref mt, .int (nI ln), .int (nI sp), .int (nI rs), .int (nI ws), .ref mv, .ref me])), (ms, .inl (g.2.1, 147, .inl fs)), (mk, .inl (g.2.1, 735, .inl fk))] s.heap.size = A at hD hE ⊢
  have hA : ∀ q : Nat, s.heap.size ≤ q → A q := fun q h => by rw [← hAe]; exact Or.inr h
  have hS : va_S A s.heap s.heap [] := va_S.rf
  have hl := lv_entry ([.ref mo, .int (nI w), .int 0]) (n := 5) (Nat.le_of_ble_eq_true rfl)
  rw [lg_entry_eq]
  generalize (lg_sl ([.ref mo, .int (nI w), .int 0]) ++ List.replicate (5 - (lg_sl ([.ref mo, .int (nI w), .int 0])).length) Slot.unset).toArray = ls at hl ⊢
  have hl : lv_has ls 5 [(0, .ref mo), (1, .int (nI w)), (2, .int 0)] := hl
  refine lv_aload_n hx hb dX6_setNormal_0 rfl (lv_at hl 0 rfl) ?_
  refine lv_iload_n hx hb dX6_setNormal_1 rfl (lv_at hl 1 rfl) ?_
  refine hk_csi (va_runV (As := [.int (nI w)]) (rest := []) ⟨hx, hb, hml, hown, hts⟩ (c6_isWord l D g ti mo ms mr mk mt mv me fs km ln sp rs ws n N o cd wt ty pa pb vo nm (nI w) hC hM) (cwV 1 hts gX6_setNormal_X6_isWord rfl rfl rfl (by decide +kernel) ⟨Nat.le_of_ble_eq_true rfl, Nat.le_of_ble_eq_true rfl⟩) (hk_roV hE hP hS 6 rfl rfl [0, 1] rfl rfl) rfl rfl hl.1 rfl (lv_room (Nat.le_of_ble_eq_true rfl)) dX6_setNormal_2 ⟨Nat.zero_le _, Nat.zero_le _⟩) (fun r_1 hr_2 => ?_)
  subst hr_2
  refine lv_if_eq (tgt := 18) hx hb dX6_setNormal_5 (by decide) (fun c_3 => ?_) (fun c_3 => ?_)
  · have c_3h : (bI (hn (2 ^ n) (nI w))) = (0 : Int32) := c_3
    exact absurd (bI_0.mp c_3) (by rw [hn_t hw2 (by have := hC.2.1; exact Nat.lt_of_le_of_lt (Nat.pow_le_pow_right (by decide) this) (by decide : 2 ^ 6 < 2 ^ 31))]; decide)
  · have c_3h : ¬ (bI (hn (2 ^ n) (nI w))) = (0 : Int32) := c_3
    refine lv_iload_n hx hb dX6_setNormal_8 rfl (lv_at hl 2 rfl) ?_
    refine lv_i2l hx hb dX6_setNormal_9 rfl ?_
    refine lv_lconst (v := 0) hx hb dX6_setNormal_10 (by decide) ?_
    refine lv_lconst (v := 1) hx hb dX6_setNormal_11 (by decide) ?_
    refine hk_csi (va_runS (As := [.long ((0 : Int32).toInt64), .long 0, .long 1]) (rest := []) ⟨hx, hb, hml, hown, hts⟩ (c6_in l D g ti ((0 : Int32).toInt64) 0 1 ) (va_cwS 3 hts gX6_setNormal_X6_in rfl rfl rfl (by decide +kernel) ⟨Nat.le_of_ble_eq_true rfl, Nat.le_of_ble_eq_true rfl⟩) (hk_roS hE hP hS [] rfl) rfl rfl hl.1 rfl (lv_room (Nat.le_of_ble_eq_true rfl)) dX6_setNormal_12 ⟨Nat.zero_le _, Nat.zero_le _⟩) (fun r_4 hr_5 => ?_)
    subst hr_5
    refine hk_ti (bI (hn 2 0)) (by rw [inL_c 1]) ?_
    refine lv_if_ne (tgt := 21) hx hb dX6_setNormal_15 (by decide) (fun c_6 => ?_) (fun c_6 => ?_)
    · have c_6h : ¬ bI (hn 2 0) = (0 : Int32) := c_6
      refine lv_aload_n hx hb dX6_setNormal_21 rfl (lv_at hl 0 rfl) ?_
      refine hk_cmv (wr := []) (va_runV (As := []) (rest := []) ⟨hx, hb, hml, hown, hts⟩ (c6_keeps l D g ti _ mo ms mr mk mt mv me fs km ln sp rs ws fk hkm) (cwV 0 hts gX6_setNormal_X6_keeps rfl rfl rfl (by decide +kernel) ⟨Nat.le_of_ble_eq_true rfl, Nat.le_of_ble_eq_true rfl⟩) (hk_inV hE hP hD hS hA 6 rfl rfl [0, 1, 2] (by decide) rfl rfl) rfl rfl hl.1 rfl (lv_room (Nat.le_of_ble_eq_true rfl)) dX6_setNormal_22 ⟨Nat.zero_le _, Nat.zero_le _⟩) hP hD hS hA [0, 1, 2] [] rfl rfl (by decide) (by decide) (fun kf H locs hr_8 hP hD hS => ?_)
      try dsimp only at hr_8
      have hP : va_P D vwCl [(mo, .inr (6, [.ref ms, .ref mr, .ref mk, .int (nI (min (km + 1) 5)), .ref mt, .int (nI ln), .int (nI sp), .int (nI rs), .int (nI ws), .ref mv, .ref me])), (ms, .inl (g.2.1, 147, .inl fs)), (mk, .inl (g.2.1, 735, .inl kf))] H := hP
      have hD : va_D A [(mo, .inr (6, [.ref ms, .ref mr, .ref mk, .int (nI (min (km + 1) 5)), .ref mt, .int (nI ln), .int (nI sp), .int (nI rs), .int (nI ws), .ref mv, .ref me])), (ms, .inl (g.2.1, 147, .inl fs)), (mk, .inl (g.2.1, 735, .inl kf))] := hD
      refine lv_aload_n hx hb dX6_setNormal_25 rfl (lv_at hl 0 rfl) ?_
      refine va_get (D := D) (ci := 6) (v := .ref ms) (C := RX6) (T := TX6) (N := 11) hx hb hts hi6 hown hK hP 0 rfl rfl 0 (by decide) (hts (.fieldLink RX6 7 "SelfCheckingCircuitModel" "s" "[I") (by decide +kernel)) (fun _ h9 => h9) rfl dX6_setNormal_26 ?_
      refine lv_bipush (v := 83) hx hb dX6_setNormal_29 (by decide) ?_
      refine lv_iload_n hx hb dX6_setNormal_31 rfl (lv_at hl 1 rfl) ?_
      refine lv_iadd hx hb dX6_setNormal_32 ?_
      refine hk_ti (nI (83 + w)) (nI_add 83 w) ?_
      refine lv_iload_n hx hb dX6_setNormal_33 rfl (lv_at hl 2 rfl) ?_
      refine va_iast hx hb hK hP hD hS 1 1 rfl rfl (vp_in_nI (N := 147) (by omega) (by decide)) dX6_setNormal_34 (fun H locs hP hD hS => ?_)
      rw [show (nI (83 + w)).toNatClampNeg = 83 + w from nI_clamp (by omega)] at hP hD
      have hP : va_P D vwCl [(mo, .inr (6, [.ref ms, .ref mr, .ref mk, .int (nI (min (km + 1) 5)), .ref mt, .int (nI ln), .int (nI sp), .int (nI rs), .int (nI ws), .ref mv, .ref me])), (ms, .inl (g.2.1, 147, .inl (upd fs (83 + w) 0))), (mk, .inl (g.2.1, 735, .inl kf))] H := hP
      have hD : va_D A [(mo, .inr (6, [.ref ms, .ref mr, .ref mk, .int (nI (min (km + 1) 5)), .ref mt, .int (nI ln), .int (nI sp), .int (nI rs), .int (nI ws), .ref mv, .ref me])), (ms, .inl (g.2.1, 147, .inl (upd fs (83 + w) 0))), (mk, .inl (g.2.1, 735, .inl kf))] := hD
      refine lv_iconst (v := 0) hx hb dX6_setNormal_35 (by decide) ?_
      refine lv_istore_n (lv' := [(3, .int 0), (0, .ref mo), (1, .int (nI w)), (2, .int 0)]) hx hb dX6_setNormal_36 rfl hl (by decide) rfl (fun ls hl => ?_)
      refine lv_iconst (v := 0) hx hb dX6_setNormal_37 (by decide) ?_
      refine lv_istore (lv' := [(4, .int 0), (3, .int 0), (0, .ref mo), (1, .int (nI w)), (2, .int 0)]) hx hb dX6_setNormal_38 hl (by decide) rfl (fun ls hl => ?_)
      have loop40 : ∀ (fuel : Nat) (i : Nat), (2 ^ n - i) < fuel → (i ≤ 2 ^ n) → ∀ (H : Heap) (locs : List Loc), va_P D vwCl [(mo, .inr (6, [.ref ms, .ref mr, .ref mk, .int (nI (min (km + 1) 5)), .ref mt, .int (nI ln), .int (nI sp), .int (nI rs), .int (nI ws), .ref mv, .ref me])), (ms, .inl (g.2.1, 147, .inl (upd fs (83 + w) 0))), (mk, .inl (g.2.1, 735, .inl kf))] H → va_D A [(mo, .inr (6, [.ref ms, .ref mr, .ref mk, .int (nI (min (km + 1) 5)), .ref mt, .int (nI ln), .int (nI sp), .int (nI rs), .int (nI ws), .ref mv, .ref me])), (ms, .inl (g.2.1, 147, .inl (upd fs (83 + w) 0))), (mk, .inl (g.2.1, 735, .inl kf))] → va_S A s.heap H locs → ∀ ls : Array Slot, lv_has ls 5 [(4, .int (nI i)), (3, .int (nI (ct (fun v => if v = w then false else lb nm v) i))), (0, .ref mo), (1, .int (nI w)), (2, .int 0)] → W p l e (headSpec wsX6_setNormal ({ frames := 2, cells := 0, slots := 0, locals := 46 })).room s m ([.ref mo, .int (nI w), .int 0] : List Value).toArray below meth c H locs 0 0 (MQ below (va_Qi (S := Nat → Int32) (fun r f' => r = nI (ct (fun v => if v = w then false else lb nm v) (2 ^ n)) ∧ KP fk fs f' km) (fun u => hk_Out D A (match u with | f' => [(mo, .inr (6, [.ref ms, .ref mr, .ref mk, .int (nI (min (km + 1) 5)), .ref mt, .int (nI ln), .int (nI sp), .int (nI rs), .int (nI ws), .ref mv, .ref me])), (ms, .inl (g.2.1, 147, .inl (upd fs (83 + w) 0))), (mk, .inl (g.2.1, 735, .inl f'))])) A) ([.ref mo, .int (nI w), .int 0] : List Value).toArray s 0 0 A) (F0 m 40 ls []) := by
        intro fuel
        induction fuel with
        | zero => intro i hm; exact absurd hm (Nat.not_lt_zero _)
        | succ fuel ih_40 =>
          intro i hm_40 hi H locs hP hD hS ls hl
          refine lv_iload hx hb dX6_setNormal_40 (lv_at hl 0 rfl) ?_
          refine lv_aload_n hx hb dX6_setNormal_42 rfl (lv_at hl 2 rfl) ?_
          refine hk_csi (va_runV (As := []) (rest := [.int (nI i)]) ⟨hx, hb, hml, hown, hts⟩ (c6_manyR l D g ti mo ms mr mk mt mv me (upd fs (83 + w) 0) ln sp rs ws (nI (min (km + 1) 5)) n (by rw [pk_un (by omega)]; exact hM.1.1) hC.2.1) (cwV 0 hts gX6_setNormal_X6_many rfl rfl rfl (by decide +kernel) ⟨Nat.le_of_ble_eq_true rfl, Nat.le_of_ble_eq_true rfl⟩) (hk_roV hE hP hS 6 rfl rfl [0, 1] rfl rfl) rfl rfl hl.1 rfl (lv_room (Nat.le_of_ble_eq_true rfl)) dX6_setNormal_43 ⟨Nat.zero_le _, Nat.zero_le _⟩) (fun r_9 hr_10 => ?_)
          subst hr_10
          refine lv_icmp_ge (tgt := 68) hx hb dX6_setNormal_46 (by decide) (fun c_11 => ?_) (fun c_11 => ?_)
          · have c_11h : nI (2 ^ n) ≤ nI i := c_11
            refine lv_iload_n hx hb dX6_setNormal_68 rfl (lv_at hl 1 rfl) ?_
            have hP9 := hP.sub (ws' := [(mo, .inr (6, [.ref ms, .ref mr, .ref mk, .int (nI (min (km + 1) 5)), .ref mt, .int (nI ln), .int (nI sp), .int (nI rs), .int (nI ws), .ref mv, .ref me])), (ms, .inl (g.2.1, 147, .inl (upd fs (83 + w) 0))), (mk, .inl (g.2.1, 735, .inl kf))]) [0, 1, 2] rfl
            have hD9 := hD.sub (ws' := [(mo, .inr (6, [.ref ms, .ref mr, .ref mk, .int (nI (min (km + 1) 5)), .ref mt, .int (nI ln), .int (nI sp), .int (nI rs), .int (nI ws), .ref mv, .ref me])), (ms, .inl (g.2.1, 147, .inl (upd fs (83 + w) 0))), (mk, .inl (g.2.1, 735, .inl kf))]) [0, 1, 2] (by decide) rfl
            exact W.iret (v := nI (ct (fun v => if v = w then false else lb nm v) i)) hx hb hr (fun tt ht hW => ⟨⟨_, kf, rfl, ⟨by rw [show i = 2 ^ n by have := hk_ge (2 ^ n) c_11 (hi := by have := pw_le hC.2.1; omega) (hn := by have := hC.2.1; exact Nat.lt_of_le_of_lt (Nat.pow_le_pow_right (by decide) this) (by decide : 2 ^ 6 < 2 ^ 31)); omega], hr_8⟩, by rw [ht]; exact hP9, hD9⟩, hS.F ht⟩) hS.2.2 dX6_setNormal_69
          · have c_11h : ¬ nI (2 ^ n) ≤ nI i := c_11
            refine lv_iload_n hx hb dX6_setNormal_49 rfl (lv_at hl 1 rfl) ?_
            refine lv_aload_n hx hb dX6_setNormal_50 rfl (lv_at hl 2 rfl) ?_
            refine va_get (D := D) (ci := 6) (v := .ref ms) (C := RX6) (T := TX6) (N := 11) hx hb hts hi6 hown hK hP 0 rfl rfl 0 (by decide) (hts (.fieldLink RX6 7 "SelfCheckingCircuitModel" "s" "[I") (by decide +kernel)) (fun _ h9 => h9) rfl dX6_setNormal_51 ?_
            refine lv_bipush (v := 83) hx hb dX6_setNormal_54 (by decide) ?_
            refine lv_iload hx hb dX6_setNormal_56 (lv_at hl 0 rfl) ?_
            refine lv_iadd hx hb dX6_setNormal_58 ?_
            refine hk_ti (nI (83 + i)) (nI_add 83 i) ?_
            refine va_iald hx hb hK hP 1 1 rfl rfl (vp_in_nI (N := 147) (by have := pw_le hC.2.1; have := (hk_nge (2 ^ n) c_11 (hi := by have := pw_le hC.2.1; omega) (hn := by have := hC.2.1; exact Nat.lt_of_le_of_lt (Nat.pow_le_pow_right (by decide) this) (by decide : 2 ^ 6 < 2 ^ 31))); omega) (by decide)) dX6_setNormal_59 ?_
            refine hk_ti ((upd fs (83 + w) 0) (83 + i)) (congrArg (upd fs (83 + w) 0) (nI_clamp (by have := pw_le hC.2.1; have := (hk_nge (2 ^ n) c_11 (hi := by have := pw_le hC.2.1; omega) (hn := by have := hC.2.1; exact Nat.lt_of_le_of_lt (Nat.pow_le_pow_right (by decide) this) (by decide : 2 ^ 6 < 2 ^ 31))); omega))) ?_
            refine lv_iadd hx hb dX6_setNormal_60 ?_
            refine hk_ti (nI (ct (fun v => if v = w then false else lb nm v) (i + 1))) (sn_0 hM (pw_64 hC.2.1 (hk_nge (2 ^ n) c_11 (hi := by have := pw_le hC.2.1; omega) (hn := by have := hC.2.1; exact Nat.lt_of_le_of_lt (Nat.pow_le_pow_right (by decide) this) (by decide : 2 ^ 6 < 2 ^ 31))))) ?_
            refine lv_istore_n (lv' := [(3, .int (nI (ct (fun v => if v = w then false else lb nm v) (i + 1)))), (4, .int (nI i)), (0, .ref mo), (1, .int (nI w)), (2, .int 0)]) hx hb dX6_setNormal_61 rfl hl (by decide) rfl (fun ls hl => ?_)
            refine lv_iinc (v := (nI (i + 1))) (lv' := [(4, .int (nI (i + 1))), (3, .int (nI (ct (fun v => if v = w then false else lb nm v) (i + 1)))), (0, .ref mo), (1, .int (nI w)), (2, .int 0)]) hx hb dX6_setNormal_62 hl (k := 1) rfl (nI_1 i) (by decide) rfl (fun ls hl => ?_)
            refine lv_goto (tgt := 40) hx hb dX6_setNormal_65 (by decide) ?_
            have hlt : i < 2 ^ n := (hk_nge (2 ^ n) c_11 (hi := by have := pw_le hC.2.1; omega) (hn := by have := hC.2.1; exact Nat.lt_of_le_of_lt (Nat.pow_le_pow_right (by decide) this) (by decide : 2 ^ 6 < 2 ^ 31)))
            exact ih_40 (i + 1) (by omega) (by omega) _ _ hP hD hS _ (lv_sub hl [0, 1, 2, 3, 4] rfl)
      exact loop40 _ 0 (Nat.lt_succ_self _) (Nat.zero_le _) _ _ hP hD hS _ (lv_sub hl [0, 1, 2, 3, 4] rfl)
    · have c_6h : bI (hn 2 0) = (0 : Int32) := c_6
      exact absurd c_6 (by decide)
theorem sn_1 {n N o cd wt i w : Nat} {ty pa pb vo : Nat → Nat} {nm : Int64} {fs : Nat → Int32} (hM : MR n N o cd wt ty pa pb vo nm fs) (hi : i < 64) : nI (ct (fun v => if v = w then true else lb nm v) i) + upd fs (83 + w) 1 (83 + i) = nI (ct (fun v => if v = w then true else lb nm v) (i + 1)) := by
  have e : upd fs (83 + w) 1 (83 + i) = bI ((fun v => if v = w then true else lb nm v) i) := by
    by_cases q : i = w
    · subst q; rw [pk_us]; simp only [if_true]; rfl
    · rw [pk_un (by omega)]; simp only [if_neg q]; exact hM.2.2.2 i hi
  rw [e]
  show _ = nI (ct (fun v => if v = w then true else lb nm v) i + (if (fun v => if v = w then true else lb nm v) i then 1 else 0))
  cases (fun v => if v = w then true else lb nm v) i
  · exact nI_add _ 0
  · exact nI_1 _
set_option maxHeartbeats 4000000 in
set_option maxRecDepth 100000 in
theorem c6_setNormal_1 (l : Launch) (D : va_G) (g : hk_G) (ti : Nat) (sz : Nat) (mo : Nat) (ms : Nat) (mr : Nat) (mk : Nat) (mt : Nat) (mv : Nat) (me : Nat) (fs : Nat → Int32) (km : Nat) (ln : Nat) (sp : Nat) (rs : Nat) (ws : Nat) (fk : Nat → Int32) (n : Nat) (N : Nat) (o : Nat) (cd : Nat) (wt : Nat) (ty : Nat → Nat) (pa : Nat → Nat) (pb : Nat → Nat) (vo : Nat → Nat) (nm : Int64) (w : Nat) (hC : Cok n N o cd wt) (hM : MR n N o cd wt ty pa pb vo nm fs) (hkm : km ≤ 5) (hw2 : w < 2 ^ n) (hw : w < 64) : Met l yX6_setNormal wsX6_setNormal ({ frames := 2, cells := 0, slots := 0, locals := 46 }) (va_Pc [.ref mo, .int (nI w), .int 1] (hk_In D g ti [(mo, .inr (6, [.ref ms, .ref mr, .ref mk, .int (nI km), .ref mt, .int (nI ln), .int (nI sp), .int (nI rs), .int (nI ws), .ref mv, .ref me])), (ms, .inl (g.2.1, 147, .inl fs)), (mk, .inl (g.2.1, 735, .inl fk))] sz)) (va_Qi (S := Nat → Int32) (fun r f' => r = nI (ct (fun v => if v = w then true else lb nm v) (2 ^ n)) ∧ KP fk fs f' km) (fun u => hk_Out D (va_A [(mo, .inr (6, [.ref ms, .ref mr, .ref mk, .int (nI km), .ref mt, .int (nI ln), .int (nI sp), .int (nI rs), .int (nI ws), .ref mv, .ref me])), (ms, .inl (g.2.1, 147, .inl fs)), (mk, .inl (g.2.1, 735, .inl fk))] sz) (match u with | f' => [(mo, .inr (6, [.ref ms, .ref mr, .ref mk, .int (nI (min (km + 1) 5)), .ref mt, .int (nI ln), .int (nI sp), .int (nI rs), .int (nI ws), .ref mv, .ref me])), (ms, .inl (g.2.1, 147, .inl (upd fs (83 + w) 1))), (mk, .inl (g.2.1, 735, .inl f'))])) (va_A [(mo, .inr (6, [.ref ms, .ref mr, .ref mk, .int (nI km), .ref mt, .int (nI ln), .int (nI sp), .int (nI rs), .int (nI ws), .ref mv, .ref me])), (ms, .inl (g.2.1, 147, .inl fs)), (mk, .inl (g.2.1, 735, .inl fk))] sz)) 0 0 (va_A [(mo, .inr (6, [.ref ms, .ref mr, .ref mk, .int (nI km), .ref mt, .int (nI ln), .int (nI sp), .int (nI rs), .int (nI ws), .ref mv, .ref me])), (ms, .inl (g.2.1, 147, .inl fs)), (mk, .inl (g.2.1, 735, .inl fk))] sz) := by
  refine Met.ofW (cc := cX6_setNormal) (maxL := 5) (ret := (some .int)) (by decide) rfl ?_
  intro p e s m args below meth c s₁ Bd hml hv
  obtain ⟨rfl, hsz, hP, hD0, hE⟩ := hv
  have hx := Bd.exec
  have hb := Bd.bytes
  have hr := Bd.returns
  have hts := atoms_spec (ws := wsX6_setNormal) Bd.pre
  have hown : s.vm.findClass RX6 = some m.cls := findClass_of_methodNamed Bd.named
  have hlocks := Bd.notSynchronized
  have hK := hE.1
  have hi6 : ∀ w ∈ wsX60, w ∈ wsX6_setNormal := fun w h => List.mem_cons_of_mem _ (List.mem_append_right _ h)
  subst hsz
  have hD := hD0.self (sz := s.heap.size)
  generalize hAe : va_A [(mo, .inr (6, [.ref ms, .ref mr, .ref mk, .int (nI km), .ref mt, .int (nI ln), .int (nI sp), .int (nI rs), .int (nI ws), .ref mv, .ref me])), (ms, .inl (g.2.1, 147, .inl fs)), (mk, .inl (g.2.1, 735, .inl fk))] s.heap.size = A at hD hE ⊢
  have hA : ∀ q : Nat, s.heap.size ≤ q → A q := fun q h => by rw [← hAe]; exact Or.inr h
  have hS : va_S A s.heap s.heap [] := va_S.rf
  have hl := lv_entry ([.ref mo, .int (nI w), .int 1]) (n := 5) (Nat.le_of_ble_eq_true rfl)
  rw [lg_entry_eq]
  generalize (lg_sl ([.ref mo, .int (nI w), .int 1]) ++ List.replicate (5 - (lg_sl ([.ref mo, .int (nI w), .int 1])).length) Slot.unset).toArray = ls at hl ⊢
  have hl : lv_has ls 5 [(0, .ref mo), (1, .int (nI w)), (2, .int 1)] := hl
  refine lv_aload_n hx hb dX6_setNormal_0 rfl (lv_at hl 0 rfl) ?_
  refine lv_iload_n hx hb dX6_setNormal_1 rfl (lv_at hl 1 rfl) ?_
  refine hk_csi (va_runV (As := [.int (nI w)]) (rest := []) ⟨hx, hb, hml, hown, hts⟩ (c6_isWord l D g ti mo ms mr mk mt mv me fs km ln sp rs ws n N o cd wt ty pa pb vo nm (nI w) hC hM) (cwV 1 hts gX6_setNormal_X6_isWord rfl rfl rfl (by decide +kernel) ⟨Nat.le_of_ble_eq_true rfl, Nat.le_of_ble_eq_true rfl⟩) (hk_roV hE hP hS 6 rfl rfl [0, 1] rfl rfl) rfl rfl hl.1 rfl (lv_room (Nat.le_of_ble_eq_true rfl)) dX6_setNormal_2 ⟨Nat.zero_le _, Nat.zero_le _⟩) (fun r_1 hr_2 => ?_)
  subst hr_2
  refine lv_if_eq (tgt := 18) hx hb dX6_setNormal_5 (by decide) (fun c_3 => ?_) (fun c_3 => ?_)
  · have c_3h : (bI (hn (2 ^ n) (nI w))) = (0 : Int32) := c_3
    exact absurd (bI_0.mp c_3) (by rw [hn_t hw2 (by have := hC.2.1; exact Nat.lt_of_le_of_lt (Nat.pow_le_pow_right (by decide) this) (by decide : 2 ^ 6 < 2 ^ 31))]; decide)
  · have c_3h : ¬ (bI (hn (2 ^ n) (nI w))) = (0 : Int32) := c_3
    refine lv_iload_n hx hb dX6_setNormal_8 rfl (lv_at hl 2 rfl) ?_
    refine lv_i2l hx hb dX6_setNormal_9 rfl ?_
    refine lv_lconst (v := 0) hx hb dX6_setNormal_10 (by decide) ?_
    refine lv_lconst (v := 1) hx hb dX6_setNormal_11 (by decide) ?_
    refine hk_csi (va_runS (As := [.long ((1 : Int32).toInt64), .long 0, .long 1]) (rest := []) ⟨hx, hb, hml, hown, hts⟩ (c6_in l D g ti ((1 : Int32).toInt64) 0 1 ) (va_cwS 3 hts gX6_setNormal_X6_in rfl rfl rfl (by decide +kernel) ⟨Nat.le_of_ble_eq_true rfl, Nat.le_of_ble_eq_true rfl⟩) (hk_roS hE hP hS [] rfl) rfl rfl hl.1 rfl (lv_room (Nat.le_of_ble_eq_true rfl)) dX6_setNormal_12 ⟨Nat.zero_le _, Nat.zero_le _⟩) (fun r_4 hr_5 => ?_)
    subst hr_5
    refine hk_ti (bI (hn 2 1)) (by rw [inL_c 1]) ?_
    refine lv_if_ne (tgt := 21) hx hb dX6_setNormal_15 (by decide) (fun c_6 => ?_) (fun c_6 => ?_)
    · have c_6h : ¬ bI (hn 2 1) = (0 : Int32) := c_6
      refine lv_aload_n hx hb dX6_setNormal_21 rfl (lv_at hl 0 rfl) ?_
      refine hk_cmv (wr := []) (va_runV (As := []) (rest := []) ⟨hx, hb, hml, hown, hts⟩ (c6_keeps l D g ti _ mo ms mr mk mt mv me fs km ln sp rs ws fk hkm) (cwV 0 hts gX6_setNormal_X6_keeps rfl rfl rfl (by decide +kernel) ⟨Nat.le_of_ble_eq_true rfl, Nat.le_of_ble_eq_true rfl⟩) (hk_inV hE hP hD hS hA 6 rfl rfl [0, 1, 2] (by decide) rfl rfl) rfl rfl hl.1 rfl (lv_room (Nat.le_of_ble_eq_true rfl)) dX6_setNormal_22 ⟨Nat.zero_le _, Nat.zero_le _⟩) hP hD hS hA [0, 1, 2] [] rfl rfl (by decide) (by decide) (fun kf H locs hr_8 hP hD hS => ?_)
      try dsimp only at hr_8
      have hP : va_P D vwCl [(mo, .inr (6, [.ref ms, .ref mr, .ref mk, .int (nI (min (km + 1) 5)), .ref mt, .int (nI ln), .int (nI sp), .int (nI rs), .int (nI ws), .ref mv, .ref me])), (ms, .inl (g.2.1, 147, .inl fs)), (mk, .inl (g.2.1, 735, .inl kf))] H := hP
      have hD : va_D A [(mo, .inr (6, [.ref ms, .ref mr, .ref mk, .int (nI (min (km + 1) 5)), .ref mt, .int (nI ln), .int (nI sp), .int (nI rs), .int (nI ws), .ref mv, .ref me])), (ms, .inl (g.2.1, 147, .inl fs)), (mk, .inl (g.2.1, 735, .inl kf))] := hD
      refine lv_aload_n hx hb dX6_setNormal_25 rfl (lv_at hl 0 rfl) ?_
      refine va_get (D := D) (ci := 6) (v := .ref ms) (C := RX6) (T := TX6) (N := 11) hx hb hts hi6 hown hK hP 0 rfl rfl 0 (by decide) (hts (.fieldLink RX6 7 "SelfCheckingCircuitModel" "s" "[I") (by decide +kernel)) (fun _ h9 => h9) rfl dX6_setNormal_26 ?_
      refine lv_bipush (v := 83) hx hb dX6_setNormal_29 (by decide) ?_
      refine lv_iload_n hx hb dX6_setNormal_31 rfl (lv_at hl 1 rfl) ?_
      refine lv_iadd hx hb dX6_setNormal_32 ?_
      refine hk_ti (nI (83 + w)) (nI_add 83 w) ?_
      refine lv_iload_n hx hb dX6_setNormal_33 rfl (lv_at hl 2 rfl) ?_
      refine va_iast hx hb hK hP hD hS 1 1 rfl rfl (vp_in_nI (N := 147) (by omega) (by decide)) dX6_setNormal_34 (fun H locs hP hD hS => ?_)
      rw [show (nI (83 + w)).toNatClampNeg = 83 + w from nI_clamp (by omega)] at hP hD
      have hP : va_P D vwCl [(mo, .inr (6, [.ref ms, .ref mr, .ref mk, .int (nI (min (km + 1) 5)), .ref mt, .int (nI ln), .int (nI sp), .int (nI rs), .int (nI ws), .ref mv, .ref me])), (ms, .inl (g.2.1, 147, .inl (upd fs (83 + w) 1))), (mk, .inl (g.2.1, 735, .inl kf))] H := hP
      have hD : va_D A [(mo, .inr (6, [.ref ms, .ref mr, .ref mk, .int (nI (min (km + 1) 5)), .ref mt, .int (nI ln), .int (nI sp), .int (nI rs), .int (nI ws), .ref mv, .ref me])), (ms, .inl (g.2.1, 147, .inl (upd fs (83 + w) 1))), (mk, .inl (g.2.1, 735, .inl kf))] := hD
      refine lv_iconst (v := 0) hx hb dX6_setNormal_35 (by decide) ?_
      refine lv_istore_n (lv' := [(3, .int 0), (0, .ref mo), (1, .int (nI w)), (2, .int 1)]) hx hb dX6_setNormal_36 rfl hl (by decide) rfl (fun ls hl => ?_)
      refine lv_iconst (v := 0) hx hb dX6_setNormal_37 (by decide) ?_
      refine lv_istore (lv' := [(4, .int 0), (3, .int 0), (0, .ref mo), (1, .int (nI w)), (2, .int 1)]) hx hb dX6_setNormal_38 hl (by decide) rfl (fun ls hl => ?_)
      have loop40 : ∀ (fuel : Nat) (i : Nat), (2 ^ n - i) < fuel → (i ≤ 2 ^ n) → ∀ (H : Heap) (locs : List Loc), va_P D vwCl [(mo, .inr (6, [.ref ms, .ref mr, .ref mk, .int (nI (min (km + 1) 5)), .ref mt, .int (nI ln), .int (nI sp), .int (nI rs), .int (nI ws), .ref mv, .ref me])), (ms, .inl (g.2.1, 147, .inl (upd fs (83 + w) 1))), (mk, .inl (g.2.1, 735, .inl kf))] H → va_D A [(mo, .inr (6, [.ref ms, .ref mr, .ref mk, .int (nI (min (km + 1) 5)), .ref mt, .int (nI ln), .int (nI sp), .int (nI rs), .int (nI ws), .ref mv, .ref me])), (ms, .inl (g.2.1, 147, .inl (upd fs (83 + w) 1))), (mk, .inl (g.2.1, 735, .inl kf))] → va_S A s.heap H locs → ∀ ls : Array Slot, lv_has ls 5 [(4, .int (nI i)), (3, .int (nI (ct (fun v => if v = w then true else lb nm v) i))), (0, .ref mo), (1, .int (nI w)), (2, .int 1)] → W p l e (headSpec wsX6_setNormal ({ frames := 2, cells := 0, slots := 0, locals := 46 })).room s m ([.ref mo, .int (nI w), .int 1] : List Value).toArray below meth c H locs 0 0 (MQ below (va_Qi (S := Nat → Int32) (fun r f' => r = nI (ct (fun v => if v = w then true else lb nm v) (2 ^ n)) ∧ KP fk fs f' km) (fun u => hk_Out D A (match u with | f' => [(mo, .inr (6, [.ref ms, .ref mr, .ref mk, .int (nI (min (km + 1) 5)), .ref mt, .int (nI ln), .int (nI sp), .int (nI rs), .int (nI ws), .ref mv, .ref me])), (ms, .inl (g.2.1, 147, .inl (upd fs (83 + w) 1))), (mk, .inl (g.2.1, 735, .inl f'))])) A) ([.ref mo, .int (nI w), .int 1] : List Value).toArray s 0 0 A) (F0 m 40 ls []) := by
        intro fuel
        induction fuel with
        | zero => intro i hm; exact absurd hm (Nat.not_lt_zero _)
        | succ fuel ih_40 =>
          intro i hm_40 hi H locs hP hD hS ls hl
          refine lv_iload hx hb dX6_setNormal_40 (lv_at hl 0 rfl) ?_
          refine lv_aload_n hx hb dX6_setNormal_42 rfl (lv_at hl 2 rfl) ?_
          refine hk_csi (va_runV (As := []) (rest := [.int (nI i)]) ⟨hx, hb, hml, hown, hts⟩ (c6_manyR l D g ti mo ms mr mk mt mv me (upd fs (83 + w) 1) ln sp rs ws (nI (min (km + 1) 5)) n (by rw [pk_un (by omega)]; exact hM.1.1) hC.2.1) (cwV 0 hts gX6_setNormal_X6_many rfl rfl rfl (by decide +kernel) ⟨Nat.le_of_ble_eq_true rfl, Nat.le_of_ble_eq_true rfl⟩) (hk_roV hE hP hS 6 rfl rfl [0, 1] rfl rfl) rfl rfl hl.1 rfl (lv_room (Nat.le_of_ble_eq_true rfl)) dX6_setNormal_43 ⟨Nat.zero_le _, Nat.zero_le _⟩) (fun r_9 hr_10 => ?_)
          subst hr_10
          refine lv_icmp_ge (tgt := 68) hx hb dX6_setNormal_46 (by decide) (fun c_11 => ?_) (fun c_11 => ?_)
          · have c_11h : nI (2 ^ n) ≤ nI i := c_11
            refine lv_iload_n hx hb dX6_setNormal_68 rfl (lv_at hl 1 rfl) ?_
            have hP9 := hP.sub (ws' := [(mo, .inr (6, [.ref ms, .ref mr, .ref mk, .int (nI (min (km + 1) 5)), .ref mt, .int (nI ln), .int (nI sp), .int (nI rs), .int (nI ws), .ref mv, .ref me])), (ms, .inl (g.2.1, 147, .inl (upd fs (83 + w) 1))), (mk, .inl (g.2.1, 735, .inl kf))]) [0, 1, 2] rfl
            have hD9 := hD.sub (ws' := [(mo, .inr (6, [.ref ms, .ref mr, .ref mk, .int (nI (min (km + 1) 5)), .ref mt, .int (nI ln), .int (nI sp), .int (nI rs), .int (nI ws), .ref mv, .ref me])), (ms, .inl (g.2.1, 147, .inl (upd fs (83 + w) 1))), (mk, .inl (g.2.1, 735, .inl kf))]) [0, 1, 2] (by decide) rfl
            exact W.iret (v := nI (ct (fun v => if v = w then true else lb nm v) i)) hx hb hr (fun tt ht hW => ⟨⟨_, kf, rfl, ⟨by rw [show i = 2 ^ n by have := hk_ge (2 ^ n) c_11 (hi := by have := pw_le hC.2.1; omega) (hn := by have := hC.2.1; exact Nat.lt_of_le_of_lt (Nat.pow_le_pow_right (by decide) this) (by decide : 2 ^ 6 < 2 ^ 31)); omega], hr_8⟩, by rw [ht]; exact hP9, hD9⟩, hS.F ht⟩) hS.2.2 dX6_setNormal_69
          · have c_11h : ¬ nI (2 ^ n) ≤ nI i := c_11
            refine lv_iload_n hx hb dX6_setNormal_49 rfl (lv_at hl 1 rfl) ?_
            refine lv_aload_n hx hb dX6_setNormal_50 rfl (lv_at hl 2 rfl) ?_
            refine va_get (D := D) (ci := 6) (v := .ref ms) (C := RX6) (T := TX6) (N := 11) hx hb hts hi6 hown hK hP 0 rfl rfl 0 (by decide) (hts (.fieldLink RX6 7 "SelfCheckingCircuitModel" "s" "[I") (by decide +kernel)) (fun _ h9 => h9) rfl dX6_setNormal_51 ?_
            refine lv_bipush (v := 83) hx hb dX6_setNormal_54 (by decide) ?_
            refine lv_iload hx hb dX6_setNormal_56 (lv_at hl 0 rfl) ?_
            refine lv_iadd hx hb dX6_setNormal_58 ?_
            refine hk_ti (nI (83 + i)) (nI_add 83 i) ?_
            refine va_iald hx hb hK hP 1 1 rfl rfl (vp_in_nI (N := 147) (by have := pw_le hC.2.1; have := (hk_nge (2 ^ n) c_11 (hi := by have := pw_le hC.2.1; omega) (hn := by have := hC.2.1; exact Nat.lt_of_le_of_lt (Nat.pow_le_pow_right (by decide) this) (by decide : 2 ^ 6 < 2 ^ 31))); omega) (by decide)) dX6_setNormal_59 ?_
            refine hk_ti ((upd fs (83 + w) 1) (83 + i)) (congrArg (upd fs (83 + w) 1) (nI_clamp (by have := pw_le hC.2.1; have := (hk_nge (2 ^ n) c_11 (hi := by have := pw_le hC.2.1; omega) (hn := by have := hC.2.1; exact Nat.lt_of_le_of_lt (Nat.pow_le_pow_right (by decide) this) (by decide : 2 ^ 6 < 2 ^ 31))); omega))) ?_
            refine lv_iadd hx hb dX6_setNormal_60 ?_
            refine hk_ti (nI (ct (fun v => if v = w then true else lb nm v) (i + 1))) (sn_1 hM (pw_64 hC.2.1 (hk_nge (2 ^ n) c_11 (hi := by have := pw_le hC.2.1; omega) (hn := by have := hC.2.1; exact Nat.lt_of_le_of_lt (Nat.pow_le_pow_right (by decide) this) (by decide : 2 ^ 6 < 2 ^ 31))))) ?_
            refine lv_istore_n (lv' := [(3, .int (nI (ct (fun v => if v = w then true else lb nm v) (i + 1)))), (4, .int (nI i)), (0, .ref mo), (1, .int (nI w)), (2, .int 1)]) hx hb dX6_setNormal_61 rfl hl (by decide) rfl (fun ls hl => ?_)
            refine lv_iinc (v := (nI (i + 1))) (lv' := [(4, .int (nI (i + 1))), (3, .int (nI (ct (fun v => if v = w then true else lb nm v) (i + 1)))), (0, .ref mo), (1, .int (nI w)), (2, .int 1)]) hx hb dX6_setNormal_62 hl (k := 1) rfl (nI_1 i) (by decide) rfl (fun ls hl => ?_)
            refine lv_goto (tgt := 40) hx hb dX6_setNormal_65 (by decide) ?_
            have hlt : i < 2 ^ n := (hk_nge (2 ^ n) c_11 (hi := by have := pw_le hC.2.1; omega) (hn := by have := hC.2.1; exact Nat.lt_of_le_of_lt (Nat.pow_le_pow_right (by decide) this) (by decide : 2 ^ 6 < 2 ^ 31)))
            exact ih_40 (i + 1) (by omega) (by omega) _ _ hP hD hS _ (lv_sub hl [0, 1, 2, 3, 4] rfl)
      exact loop40 _ 0 (Nat.lt_succ_self _) (Nat.zero_le _) _ _ hP hD hS _ (lv_sub hl [0, 1, 2, 3, 4] rfl)
    · have c_6h : bI (hn 2 1) = (0 : Int32) := c_6
      exact absurd c_6 (by decide)
set_option maxHeartbeats 4000000 in
set_option maxRecDepth 100000 in
theorem c6_setNormal_no (l : Launch) (D : va_G) (g : hk_G) (ti : Nat) (mo : Nat) (ms : Nat) (mr : Nat) (mk : Nat) (mt : Nat) (mv : Nat) (me : Nat) (fs : Nat → Int32) (km : Nat) (ln : Nat) (sp : Nat) (rs : Nat) (ws : Nat) (n : Nat) (N : Nat) (o : Nat) (cd : Nat) (wt : Nat) (ty : Nat → Nat) (pa : Nat → Nat) (pb : Nat → Nat) (vo : Nat → Nat) (nm : Int64) (v : Int32) (b : Int32) (hC : Cok n N o cd wt) (hM : MR n N o cd wt ty pa pb vo nm fs) (hno : hn (2 ^ n) v = false ∨ hn 2 b = false) : Met l yX6_setNormal wsX6_setNormal ({ frames := 2, cells := 0, slots := 0, locals := 46 }) (va_Pc [.ref mo, .int v, .int b] (hk_Ro D g ti [(mo, .inr (6, [.ref ms, .ref mr, .ref mk, .int (nI km), .ref mt, .int (nI ln), .int (nI sp), .int (nI rs), .int (nI ws), .ref mv, .ref me])), (ms, .inl (g.2.1, 147, .inl fs))])) (vp_Si (fun r => r = -101)) 0 0 (fun _ => False) := by
  refine Met.ofW (cc := cX6_setNormal) (maxL := 5) (ret := (some .int)) (by decide) rfl ?_
  intro p e s m args below meth c s₁ Bd hml hv
  obtain ⟨rfl, hP, hE⟩ := hv
  have hx := Bd.exec
  have hb := Bd.bytes
  have hr := Bd.returns
  have hts := atoms_spec (ws := wsX6_setNormal) Bd.pre
  have hown : s.vm.findClass RX6 = some m.cls := findClass_of_methodNamed Bd.named
  have hlocks := Bd.notSynchronized
  have hK := hE.1
  have hS : va_S (fun _ => False) s.heap s.heap [] := va_S.rf
  have hl := lv_entry ([.ref mo, .int v, .int b]) (n := 5) (Nat.le_of_ble_eq_true rfl)
  rw [lg_entry_eq]
  generalize (lg_sl ([.ref mo, .int v, .int b]) ++ List.replicate (5 - (lg_sl ([.ref mo, .int v, .int b])).length) Slot.unset).toArray = ls at hl ⊢
  have hl : lv_has ls 5 [(0, .ref mo), (1, .int v), (2, .int b)] := hl
  refine lv_aload_n hx hb dX6_setNormal_0 rfl (lv_at hl 0 rfl) ?_
  refine lv_iload_n hx hb dX6_setNormal_1 rfl (lv_at hl 1 rfl) ?_
  refine hk_csi (va_runV (As := [.int v]) (rest := []) ⟨hx, hb, hml, hown, hts⟩ (c6_isWord l D g ti mo ms mr mk mt mv me fs km ln sp rs ws n N o cd wt ty pa pb vo nm v hC hM) (cwV 1 hts gX6_setNormal_X6_isWord rfl rfl rfl (by decide +kernel) ⟨Nat.le_of_ble_eq_true rfl, Nat.le_of_ble_eq_true rfl⟩) (hk_roV hE hP hS 6 rfl rfl [0, 1] rfl rfl) rfl rfl hl.1 rfl (lv_room (Nat.le_of_ble_eq_true rfl)) dX6_setNormal_2 ⟨Nat.zero_le _, Nat.zero_le _⟩) (fun r_1 hr_2 => ?_)
  subst hr_2
  refine lv_if_eq (tgt := 18) hx hb dX6_setNormal_5 (by decide) (fun c_3 => ?_) (fun c_3 => ?_)
  · have c_3h : (bI (hn (2 ^ n) v)) = (0 : Int32) := c_3
    refine lv_bipush (v := (-101)) hx hb dX6_setNormal_18 (by decide) ?_
    exact W.iret (v := (-101)) hx hb hr (fun tt ht hW => ⟨_, rfl, rfl, ht⟩) (fun _ h => by cases h) dX6_setNormal_20
  · have c_3h : ¬ (bI (hn (2 ^ n) v)) = (0 : Int32) := c_3
    refine lv_iload_n hx hb dX6_setNormal_8 rfl (lv_at hl 2 rfl) ?_
    refine lv_i2l hx hb dX6_setNormal_9 rfl ?_
    refine lv_lconst (v := 0) hx hb dX6_setNormal_10 (by decide) ?_
    refine lv_lconst (v := 1) hx hb dX6_setNormal_11 (by decide) ?_
    refine hk_csi (va_runS (As := [.long b.toInt64, .long 0, .long 1]) (rest := []) ⟨hx, hb, hml, hown, hts⟩ (c6_in l D g ti b.toInt64 0 1 ) (va_cwS 3 hts gX6_setNormal_X6_in rfl rfl rfl (by decide +kernel) ⟨Nat.le_of_ble_eq_true rfl, Nat.le_of_ble_eq_true rfl⟩) (hk_roS hE hP hS [] rfl) rfl rfl hl.1 rfl (lv_room (Nat.le_of_ble_eq_true rfl)) dX6_setNormal_12 ⟨Nat.zero_le _, Nat.zero_le _⟩) (fun r_4 hr_5 => ?_)
    subst hr_5
    refine hk_ti (bI (hn 2 b)) (by rw [inL_c 1]) ?_
    refine lv_if_ne (tgt := 21) hx hb dX6_setNormal_15 (by decide) (fun c_6 => ?_) (fun c_6 => ?_)
    · have c_6h : ¬ bI (hn 2 b) = (0 : Int32) := c_6
      exact absurd (bI_0.mpr (hno.resolve_left (by rw [bI_n0 c_3]; decide))) c_6
    · have c_6h : bI (hn 2 b) = (0 : Int32) := c_6
      refine lv_bipush (v := (-101)) hx hb dX6_setNormal_18 (by decide) ?_
      exact W.iret (v := (-101)) hx hb hr (fun tt ht hW => ⟨_, rfl, rfl, ht⟩) (fun _ h => by cases h) dX6_setNormal_20
