theorem lt_pw {v n : Nat} (hn : n ≤ 6) (hv : v < 1000) (h : ¬ nI (2 ^ n) ≤ nI v) : v < 2 ^ n := by
  have := mt (nI_leI (a := 2 ^ n) (b := v) (pw_31 hn) (by omega)).mpr h; omega
set_option maxHeartbeats 4000000 in
set_option maxRecDepth 100000 in
theorem c6_statement (l : Launch) (D : va_G) (g : hk_G) (ti : Nat) (sz : Nat) (mo : Nat) (ms : Nat) (mr : Nat) (mk : Nat) (mt : Nat) (mv : Nat) (me : Nat) (km : Nat) (ws : Nat) (L : Nat) (pz : Nat) (fx : Nat → Int32) (tx : Nat → Nat) (fr : Nat → Int32) (n : Nat) (N : Nat) (o : Nat) (ty : Nat → Nat) (pa : Nat → Nat) (pb : Nat → Nat) (vo : Nat → Nat) (nm : Int64) (bf : Int32) (hX : TX tx L fx) (hp : pz < 300) (hQ : n ≤ 6 ∧ n ≤ N ∧ N ≤ n + 24 ∧ o ≤ 6) (hM : MR n N o 0 0 ty pa pb vo nm fr) (hbf : bf = bI (decide (pz = 0))) (hw : ws = 0 ↔ nm = 0) (h0z : pz = 0 → n = 0 ∧ N = 0 ∧ o = 0 ∧ nm = 0 ∧ ws = 0) : Met l yX6_statement wsX6_statement ({ frames := 3, cells := 0, slots := 0, locals := 71 }) (va_Pc [.ref mo, .int bf] (hk_In D g ti [(mo, .inr (6, [.ref ms, .ref mr, .ref mk, .int (nI km), .ref mt, .int (nI L), .int (nI pz), .int 0, .int (nI ws), .ref mv, .ref me])), (mt, .inl (g.2.1, 200, .inl fx)), (mr, .inl (g.2.1, 147, .inl fr))] sz)) (va_Qv (S := Int32 × Nat × (Nat → Int32) × Nat) (fun u => STp (pS tx L pz (n, N, o, ty, pa, pb, vo, nm)) u.1 u.2.1 u.2.2.1 ws u.2.2.2) (fun u => hk_Out D (va_A [(mo, .inr (6, [.ref ms, .ref mr, .ref mk, .int (nI km), .ref mt, .int (nI L), .int (nI pz), .int 0, .int (nI ws), .ref mv, .ref me])), (mt, .inl (g.2.1, 200, .inl fx)), (mr, .inl (g.2.1, 147, .inl fr))] sz) (match u with | (rs', q', f', w') => [(mo, .inr (6, [.ref ms, .ref mr, .ref mk, .int (nI km), .ref mt, .int (nI L), .int (nI q'), .int rs', .int (nI w'), .ref mv, .ref me])), (mt, .inl (g.2.1, 200, .inl fx)), (mr, .inl (g.2.1, 147, .inl f'))])) (va_A [(mo, .inr (6, [.ref ms, .ref mr, .ref mk, .int (nI km), .ref mt, .int (nI L), .int (nI pz), .int 0, .int (nI ws), .ref mv, .ref me])), (mt, .inl (g.2.1, 200, .inl fx)), (mr, .inl (g.2.1, 147, .inl fr))] sz)) 0 0 (va_A [(mo, .inr (6, [.ref ms, .ref mr, .ref mk, .int (nI km), .ref mt, .int (nI L), .int (nI pz), .int 0, .int (nI ws), .ref mv, .ref me])), (mt, .inl (g.2.1, 200, .inl fx)), (mr, .inl (g.2.1, 147, .inl fr))] sz) := by
  refine Met.ofW (cc := cX6_statement) (maxL := 5) (ret := none) (by decide) rfl ?_
  intro p e s m args below meth c s₁ Bd hml hv
  obtain ⟨rfl, hsz, hP, hD0, hE⟩ := hv
  have hx := Bd.exec
  have hb := Bd.bytes
  have hr := Bd.returns
  have hts := atoms_spec (ws := wsX6_statement) Bd.pre
  have hown : s.vm.findClass RX6 = some m.cls := findClass_of_methodNamed Bd.named
  have hlocks := Bd.notSynchronized
  have hK := hE.1
  have hi6 : ∀ w ∈ wsX60, w ∈ wsX6_statement := fun w h => List.mem_cons_of_mem _ (List.mem_append_right _ h)
  subst hsz
  have hD := hD0.self (sz := s.heap.size)
  generalize hAe : va_A [(mo, .inr (6, [.ref ms, .ref mr, .ref mk, .int (nI km), .ref mt, .int (nI L), .int (nI pz), .int 0, .int (nI ws), .ref mv, .ref me])), (mt, .inl (g.2.1, 200, .inl fx)), (mr, .inl (g.2.1, 147, .inl fr))] s.heap.size = A at hD hE ⊢
  have hA : ∀ q : Nat, s.heap.size ≤ q → A q := fun q h => by rw [← hAe]; exact Or.inr h
  have hS : va_S A s.heap s.heap [] := va_S.rf
  have hl := lv_entry ([.ref mo, .int bf]) (n := 5) (Nat.le_of_ble_eq_true rfl)
  rw [lg_entry_eq]
  generalize (lg_sl ([.ref mo, .int bf]) ++ List.replicate (5 - (lg_sl ([.ref mo, .int bf])).length) Slot.unset).toArray = ls at hl ⊢
  have hl : lv_has ls 5 [(0, .ref mo), (1, .int bf)] := hl
  refine lv_aload_n hx hb dX6_statement_0 rfl (lv_at hl 0 rfl) ?_
  refine hk_csi (va_runV (As := []) (rest := []) ⟨hx, hb, hml, hown, hts⟩ (c6_here l D g ti mo ms mr mk mt mv me km ws L pz 0 fx tx hX (by omega)) (cwV 0 hts gX6_statement_X6_here rfl rfl rfl (by decide +kernel) ⟨Nat.le_of_ble_eq_true rfl, Nat.le_of_ble_eq_true rfl⟩) (hk_roV hE hP hS 6 rfl rfl [0, 1] rfl rfl) rfl rfl hl.1 rfl (lv_room (Nat.le_of_ble_eq_true rfl)) dX6_statement_1 ⟨Nat.zero_le _, Nat.zero_le _⟩) (fun r_1 hr_2 => ?_)
  subst hr_2
  refine lv_istore_n (lv' := [(2, .int (nI (ca tx L pz))), (0, .ref mo), (1, .int bf)]) hx hb dX6_statement_4 rfl hl (by decide) rfl (fun ls hl => ?_)
  refine lv_aload_n hx hb dX6_statement_5 rfl (lv_at hl 1 rfl) ?_
  refine lv_dup hx hb dX6_statement_6 rfl ?_
  refine va_get (D := D) (ci := 6) (v := .int (nI pz)) (C := RX6) (T := TX6) (N := 11) hx hb hts hi6 hown hK hP 0 rfl rfl 6 (by decide) (hts (.fieldLink RX6 45 "SelfCheckingCircuitModel" "spot" "I") (by decide +kernel)) (fun _ h9 => h9) rfl dX6_statement_7 ?_
  refine lv_iconst (v := 1) hx hb dX6_statement_10 (by decide) ?_
  refine lv_iadd hx hb dX6_statement_11 ?_
  refine hk_ti (nI (pz + 1)) (nI_1 pz) ?_
  refine va_put (D := D) (ci := 6) (v := .int (nI (pz + 1))) (ty := .int) (C := RX6) (T := TX6) (N := 11) hx hb hts hi6 tyX6 tyX6_ok nmX6 hown hK hP hD hS 0 rfl rfl 6 (by decide) (hts (.fieldLink RX6 45 "SelfCheckingCircuitModel" "spot" "I") (by decide +kernel)) (fun _ h9 => h9) rfl (by decide +kernel) rfl rfl (Nat.le_of_ble_eq_true rfl) dX6_statement_12 (fun H locs hP hD hS => ?_)
  have hP : va_P D vwCl [(mo, .inr (6, [.ref ms, .ref mr, .ref mk, .int (nI km), .ref mt, .int (nI L), .int (nI (pz + 1)), .int 0, .int (nI ws), .ref mv, .ref me])), (mt, .inl (g.2.1, 200, .inl fx)), (mr, .inl (g.2.1, 147, .inl fr))] H := hP
  have hD : va_D A [(mo, .inr (6, [.ref ms, .ref mr, .ref mk, .int (nI km), .ref mt, .int (nI L), .int (nI (pz + 1)), .int 0, .int (nI ws), .ref mv, .ref me])), (mt, .inl (g.2.1, 200, .inl fx)), (mr, .inl (g.2.1, 147, .inl fr))] := hD
  refine lv_iload_n hx hb dX6_statement_15 rfl (lv_at hl 0 rfl) ?_
  refine lv_bipush (v := 105) hx hb dX6_statement_16 (by decide) ?_
  refine lv_icmp_eq (tgt := 39) hx hb dX6_statement_18 (by decide) (fun c_3 => ?_) (fun c_3 => ?_)
  · have c_3h : (nI (ca tx L pz)) = (105 : Int32) := c_3
    refine lv_iconst (v := 1) hx hb dX6_statement_39 (by decide) ?_
    refine lv_goto (tgt := 44) hx hb dX6_statement_40 (by decide) ?_
    refine lv_istore_n (lv' := [(3, .int 1), (2, .int (nI (ca tx L pz))), (0, .ref mo), (1, .int bf)]) hx hb dX6_statement_44 rfl hl (by decide) rfl (fun ls hl => ?_)
    refine lv_iload_n hx hb dX6_statement_45 rfl (lv_at hl 0 rfl) ?_
    refine lv_if_eq (tgt := 64) hx hb dX6_statement_46 (by decide) (fun c_4 => ?_) (fun c_4 => ?_)
    · have c_4h : (1 : Int32) = (0 : Int32) := c_4
      exact absurd c_4 (by decide)
    · have c_4h : ¬ (1 : Int32) = (0 : Int32) := c_4
      refine lv_iload_n hx hb dX6_statement_49 rfl (lv_at hl 1 rfl) ?_
      refine lv_bipush (v := 105) hx hb dX6_statement_50 (by decide) ?_
      refine lv_icmp_ne (tgt := 59) hx hb dX6_statement_52 (by decide) (fun c_5 => ?_) (fun c_5 => ?_)
      · have c_5h : ¬ (nI (ca tx L pz)) = (105 : Int32) := c_5
        exact absurd c_3 c_5
      · have c_5h : (nI (ca tx L pz)) = (105 : Int32) := c_5
        refine lv_iconst (v := 1) hx hb dX6_statement_55 (by decide) ?_
        refine lv_goto (tgt := 60) hx hb dX6_statement_56 (by decide) ?_
        refine lv_iload_n hx hb dX6_statement_60 rfl (lv_at hl 3 rfl) ?_
        refine lv_icmp_eq (tgt := 70) hx hb dX6_statement_61 (by decide) (fun c_6 => ?_) (fun c_6 => ?_)
        · have c_6h : (1 : Int32) = bf := c_6
          refine lv_iload_n hx hb dX6_statement_70 rfl (lv_at hl 1 rfl) ?_
          refine lv_bipush (v := 103) hx hb dX6_statement_71 (by decide) ?_
          refine lv_icmp_ne (tgt := 81) hx hb dX6_statement_73 (by decide) (fun c_7 => ?_) (fun c_7 => ?_)
          · have c_7h : ¬ (nI (ca tx L pz)) = (103 : Int32) := c_7
            refine lv_aload_n hx hb dX6_statement_81 rfl (lv_at hl 2 rfl) ?_
            refine hk_cmi (wr := [(mr, .inl (g.2.1, 147, .inl fr))]) (va_runV (As := []) (rest := []) ⟨hx, hb, hml, hown, hts⟩ (c6_number l D g ti _ mo ms mr mk mt mv me km ws L (pz + 1) 0 fx tx hX (by omega)) (cwV 0 hts gX6_statement_X6_number rfl rfl rfl (by decide +kernel) ⟨Nat.le_of_ble_eq_true rfl, Nat.le_of_ble_eq_true rfl⟩) (hk_inV hE hP hD hS hA 6 rfl rfl [0, 1] (by decide) rfl rfl) rfl rfl hl.1 rfl (lv_room (Nat.le_of_ble_eq_true rfl)) dX6_statement_82 ⟨Nat.zero_le _, Nat.zero_le _⟩) hP hD hS hA [0, 1] [2] rfl rfl (by decide) (by decide) (fun r1 un1 H locs hn1 hP hD hS => ?_)
            obtain ⟨rsa1, p1⟩ := un1
            try dsimp only at hn1
            have hP : va_P D vwCl [(mr, .inl (g.2.1, 147, .inl fr)), (mo, .inr (6, [.ref ms, .ref mr, .ref mk, .int (nI km), .ref mt, .int (nI L), .int (nI p1), .int rsa1, .int (nI ws), .ref mv, .ref me])), (mt, .inl (g.2.1, 200, .inl fx))] H := hP
            have hD : va_D A [(mr, .inl (g.2.1, 147, .inl fr)), (mo, .inr (6, [.ref ms, .ref mr, .ref mk, .int (nI km), .ref mt, .int (nI L), .int (nI p1), .int rsa1, .int (nI ws), .ref mv, .ref me])), (mt, .inl (g.2.1, 200, .inl fx))] := hD
            refine lv_istore (lv' := [(4, .int r1), (3, .int 1), (2, .int (nI (ca tx L pz))), (0, .ref mo), (1, .int bf)]) hx hb dX6_statement_85 hl (by decide) rfl (fun ls hl => ?_)
            refine lv_aload_n hx hb dX6_statement_87 rfl (lv_at hl 3 rfl) ?_
            refine lv_bipush (v := 59) hx hb dX6_statement_88 (by decide) ?_
            refine hk_cmv (wr := [(mr, .inl (g.2.1, 147, .inl fr))]) (va_runV (As := [.int 59]) (rest := []) ⟨hx, hb, hml, hown, hts⟩ (c6_sign l D g ti _ mo ms mr mk mt mv me km ws L p1 rsa1 fx tx 59 hX (by have := hn1.2.2; omega)) (cwV 1 hts gX6_statement_X6_sign rfl rfl rfl (by decide +kernel) ⟨Nat.le_of_ble_eq_true rfl, Nat.le_of_ble_eq_true rfl⟩) (hk_inV hE hP hD hS hA 6 rfl rfl [1, 2] (by decide) rfl rfl) rfl rfl hl.1 rfl (lv_room (Nat.le_of_ble_eq_true rfl)) dX6_statement_90 ⟨Nat.zero_le _, Nat.zero_le _⟩) hP hD hS hA [1, 2] [0] rfl rfl (by decide) (by decide) (fun rsb1 H locs hs1 hP hD hS => ?_)
            try dsimp only at hs1
            have hP : va_P D vwCl [(mr, .inl (g.2.1, 147, .inl fr)), (mo, .inr (6, [.ref ms, .ref mr, .ref mk, .int (nI km), .ref mt, .int (nI L), .int (nI (p1 + 1)), .int rsb1, .int (nI ws), .ref mv, .ref me])), (mt, .inl (g.2.1, 200, .inl fx))] H := hP
            have hD : va_D A [(mr, .inl (g.2.1, 147, .inl fr)), (mo, .inr (6, [.ref ms, .ref mr, .ref mk, .int (nI km), .ref mt, .int (nI L), .int (nI (p1 + 1)), .int rsb1, .int (nI ws), .ref mv, .ref me])), (mt, .inl (g.2.1, 200, .inl fx))] := hD
            have hSF := sf_1 hX hn1 hs1
            refine lv_iload_n hx hb dX6_statement_93 rfl (lv_at hl 2 rfl) ?_
            refine lv_bipush (v := 105) hx hb dX6_statement_94 (by decide) ?_
            refine lv_icmp_ne (tgt := 125) hx hb dX6_statement_96 (by decide) (fun c_9 => ?_) (fun c_9 => ?_)
            · have c_9h : ¬ (nI (ca tx L pz)) = (105 : Int32) := c_9
              exact absurd c_5 c_9
            · have c_9h : (nI (ca tx L pz)) = (105 : Int32) := c_9
              refine lv_aload_n hx hb dX6_statement_99 rfl (lv_at hl 3 rfl) ?_
              refine lv_iload hx hb dX6_statement_100 (lv_at hl 0 rfl) ?_
              refine lv_i2l hx hb dX6_statement_102 rfl ?_
              refine lv_lconst (v := 1) hx hb dX6_statement_103 (by decide) ?_
              refine lv_ldc2 (own := RX6) (v := (6)) hx hb hown (hts (.constantLong RX6 83 (6)) (by decide +kernel)) dX6_statement_104 ?_
              refine hk_csi (va_runS (As := [.long r1.toInt64, .long 1, .long (6)]) (rest := [.ref mo]) ⟨hx, hb, hml, hown, hts⟩ (c6_in l D g ti r1.toInt64 1 (6) ) (va_cwS 3 hts gX6_statement_X6_in rfl rfl rfl (by decide +kernel) ⟨Nat.le_of_ble_eq_true rfl, Nat.le_of_ble_eq_true rfl⟩) (hk_roS hE hP hS [] rfl) rfl rfl hl.1 rfl (lv_room (Nat.le_of_ble_eq_true rfl)) dX6_statement_107 ⟨Nat.zero_le _, Nat.zero_le _⟩) (fun r_10 hr_11 => ?_)
              subst hr_11
              refine lv_iconst (v := 1) hx hb dX6_statement_110 (by decide) ?_
              refine hk_cmv (wr := [(mr, .inl (g.2.1, 147, .inl fr)), (mt, .inl (g.2.1, 200, .inl fx))]) (va_runV (As := [.int (bI (inL r1.toInt64 1 (6))), .int 1]) (rest := []) ⟨hx, hb, hml, hown, hts⟩ (c6_checked l D g ti _ mo ms mr mk mt mv me km ws L (p1 + 1) rsb1 (bI (inL r1.toInt64 1 (6))) 1 ) (cwV 2 hts gX6_statement_X6_checked rfl rfl rfl (by decide +kernel) ⟨Nat.le_of_ble_eq_true rfl, Nat.le_of_ble_eq_true rfl⟩) (hk_inV hE hP hD hS hA 6 rfl rfl [1] (by decide) rfl rfl) rfl rfl hl.1 rfl (lv_room (Nat.le_of_ble_eq_true rfl)) dX6_statement_111 ⟨Nat.zero_le _, Nat.zero_le _⟩) hP hD hS hA [1] [0, 2] rfl rfl (by decide) (by decide) (fun rs7 H locs hck hP hD hS => ?_)
              try dsimp only at hck
              have hP : va_P D vwCl [(mr, .inl (g.2.1, 147, .inl fr)), (mt, .inl (g.2.1, 200, .inl fx)), (mo, .inr (6, [.ref ms, .ref mr, .ref mk, .int (nI km), .ref mt, .int (nI L), .int (nI (p1 + 1)), .int rs7, .int (nI ws), .ref mv, .ref me]))] H := hP
              have hD : va_D A [(mr, .inl (g.2.1, 147, .inl fr)), (mt, .inl (g.2.1, 200, .inl fx)), (mo, .inr (6, [.ref ms, .ref mr, .ref mk, .int (nI km), .ref mt, .int (nI L), .int (nI (p1 + 1)), .int rs7, .int (nI ws), .ref mv, .ref me]))] := hD
              refine lv_aload_n hx hb dX6_statement_114 rfl (lv_at hl 3 rfl) ?_
              refine va_get (D := D) (ci := 6) (v := .ref mr) (C := RX6) (T := TX6) (N := 11) hx hb hts hi6 hown hK hP 2 rfl rfl 1 (by decide) (hts (.fieldLink RX6 13 "SelfCheckingCircuitModel" "read" "[I") (by decide +kernel)) (fun _ h9 => h9) rfl dX6_statement_115 ?_
              refine lv_iconst (v := 0) hx hb dX6_statement_118 (by decide) ?_
              refine lv_iload hx hb dX6_statement_119 (lv_at hl 0 rfl) ?_
              refine va_iast hx hb hK hP hD hS 0 1 rfl rfl (by unfold vp_in; decide) dX6_statement_121 (fun H locs hP hD hS => ?_)
              rw [show (0 : Int32).toNatClampNeg = 0 from by decide] at hP hD
              have hP : va_P D vwCl [(mr, .inl (g.2.1, 147, .inl (upd fr 0 r1))), (mt, .inl (g.2.1, 200, .inl fx)), (mo, .inr (6, [.ref ms, .ref mr, .ref mk, .int (nI km), .ref mt, .int (nI L), .int (nI (p1 + 1)), .int rs7, .int (nI ws), .ref mv, .ref me]))] H := hP
              have hD : va_D A [(mr, .inl (g.2.1, 147, .inl (upd fr 0 r1))), (mt, .inl (g.2.1, 200, .inl fx)), (mo, .inr (6, [.ref ms, .ref mr, .ref mk, .int (nI km), .ref mt, .int (nI L), .int (nI (p1 + 1)), .int rs7, .int (nI ws), .ref mv, .ref me]))] := hD
              refine lv_goto (tgt := 247) hx hb dX6_statement_122 (by decide) ?_
              have hP9 := hP.sub (ws' := [(mo, .inr (6, [.ref ms, .ref mr, .ref mk, .int (nI km), .ref mt, .int (nI L), .int (nI (p1 + 1)), .int rs7, .int (nI ws), .ref mv, .ref me])), (mt, .inl (g.2.1, 200, .inl fx)), (mr, .inl (g.2.1, 147, .inl (upd fr 0 r1)))]) [2, 1, 0] rfl
              have hD9 := hD.sub (ws' := [(mo, .inr (6, [.ref ms, .ref mr, .ref mk, .int (nI km), .ref mt, .int (nI L), .int (nI (p1 + 1)), .int rs7, .int (nI ws), .ref mv, .ref me])), (mt, .inl (g.2.1, 200, .inl fx)), (mr, .inl (g.2.1, 147, .inl (upd fr 0 r1)))]) [2, 1, 0] (by decide) rfl
              exact W.vret hx hb hr (fun tt ht hW => ⟨⟨(rs7, (p1 + 1), (upd fr 0 r1), ws), rfl, by obtain ⟨e1, e2, e3, e4, e5⟩ := h0z ((mbA hbf (ca_e hX (k := 105) c_9)).1 c_6).2; subst e1; subst e2; subst e3; subst e4; exact st_i hX ((mbA hbf (ca_e hX (k := 105) c_9)).1 c_6).1 (ca_e hX (k := 105) c_9) hSF hck hM e5, by rw [ht]; exact hP9, hD9⟩, hS.F ht⟩) hS.2.2 dX6_statement_247
          · have c_7h : (nI (ca tx L pz)) = (103 : Int32) := c_7
            exact absurd (c_5.symm.trans c_7) (by decide)
        · have c_6h : ¬ (1 : Int32) = bf := c_6
          refine lv_aload_n hx hb dX6_statement_64 rfl (lv_at hl 2 rfl) ?_
          refine lv_iconst (v := 1) hx hb dX6_statement_65 (by decide) ?_
          refine va_put (D := D) (ci := 6) (v := .int 1) (ty := .int) (C := RX6) (T := TX6) (N := 11) hx hb hts hi6 tyX6 tyX6_ok nmX6 hown hK hP hD hS 0 rfl rfl 7 (by decide) (hts (.fieldLink RX6 56 "SelfCheckingCircuitModel" "reason" "I") (by decide +kernel)) (fun _ h9 => h9) rfl (by decide +kernel) rfl rfl (Nat.le_of_ble_eq_true rfl) dX6_statement_66 (fun H locs hP hD hS => ?_)
          have hP : va_P D vwCl [(mo, .inr (6, [.ref ms, .ref mr, .ref mk, .int (nI km), .ref mt, .int (nI L), .int (nI (pz + 1)), .int 1, .int (nI ws), .ref mv, .ref me])), (mt, .inl (g.2.1, 200, .inl fx)), (mr, .inl (g.2.1, 147, .inl fr))] H := hP
          have hD : va_D A [(mo, .inr (6, [.ref ms, .ref mr, .ref mk, .int (nI km), .ref mt, .int (nI L), .int (nI (pz + 1)), .int 1, .int (nI ws), .ref mv, .ref me])), (mt, .inl (g.2.1, 200, .inl fx)), (mr, .inl (g.2.1, 147, .inl fr))] := hD
          have hP9 := hP.sub (ws' := [(mo, .inr (6, [.ref ms, .ref mr, .ref mk, .int (nI km), .ref mt, .int (nI L), .int (nI (pz + 1)), .int 1, .int (nI ws), .ref mv, .ref me])), (mt, .inl (g.2.1, 200, .inl fx)), (mr, .inl (g.2.1, 147, .inl fr))]) [0, 1, 2] rfl
          have hD9 := hD.sub (ws' := [(mo, .inr (6, [.ref ms, .ref mr, .ref mk, .int (nI km), .ref mt, .int (nI L), .int (nI (pz + 1)), .int 1, .int (nI ws), .ref mv, .ref me])), (mt, .inl (g.2.1, 200, .inl fx)), (mr, .inl (g.2.1, 147, .inl fr))]) [0, 1, 2] (by decide) rfl
          exact W.vret hx hb hr (fun tt ht hW => ⟨⟨(1, (pz + 1), fr, ws), rfl, st_1 ((mbA hbf (ca_e hX (k := 105) c_5)).2 c_6), by rw [ht]; exact hP9, hD9⟩, hS.F ht⟩) hS.2.2 dX6_statement_69
  · have c_3h : ¬ (nI (ca tx L pz)) = (105 : Int32) := c_3
    refine lv_iload_n hx hb dX6_statement_21 rfl (lv_at hl 0 rfl) ?_
    refine lv_bipush (v := 103) hx hb dX6_statement_22 (by decide) ?_
    refine lv_icmp_eq (tgt := 39) hx hb dX6_statement_24 (by decide) (fun c_13 => ?_) (fun c_13 => ?_)
    · have c_13h : (nI (ca tx L pz)) = (103 : Int32) := c_13
      refine lv_iconst (v := 1) hx hb dX6_statement_39 (by decide) ?_
      refine lv_goto (tgt := 44) hx hb dX6_statement_40 (by decide) ?_
      refine lv_istore_n (lv' := [(3, .int 1), (2, .int (nI (ca tx L pz))), (0, .ref mo), (1, .int bf)]) hx hb dX6_statement_44 rfl hl (by decide) rfl (fun ls hl => ?_)
      refine lv_iload_n hx hb dX6_statement_45 rfl (lv_at hl 0 rfl) ?_
      refine lv_if_eq (tgt := 64) hx hb dX6_statement_46 (by decide) (fun c_14 => ?_) (fun c_14 => ?_)
      · have c_14h : (1 : Int32) = (0 : Int32) := c_14
        exact absurd c_14 (by decide)
      · have c_14h : ¬ (1 : Int32) = (0 : Int32) := c_14
        refine lv_iload_n hx hb dX6_statement_49 rfl (lv_at hl 1 rfl) ?_
        refine lv_bipush (v := 105) hx hb dX6_statement_50 (by decide) ?_
        refine lv_icmp_ne (tgt := 59) hx hb dX6_statement_52 (by decide) (fun c_15 => ?_) (fun c_15 => ?_)
        · have c_15h : ¬ (nI (ca tx L pz)) = (105 : Int32) := c_15
          refine lv_iconst (v := 0) hx hb dX6_statement_59 (by decide) ?_
          refine lv_iload_n hx hb dX6_statement_60 rfl (lv_at hl 3 rfl) ?_
          refine lv_icmp_eq (tgt := 70) hx hb dX6_statement_61 (by decide) (fun c_16 => ?_) (fun c_16 => ?_)
          · have c_16h : (0 : Int32) = bf := c_16
            refine lv_iload_n hx hb dX6_statement_70 rfl (lv_at hl 1 rfl) ?_
            refine lv_bipush (v := 103) hx hb dX6_statement_71 (by decide) ?_
            refine lv_icmp_ne (tgt := 81) hx hb dX6_statement_73 (by decide) (fun c_17 => ?_) (fun c_17 => ?_)
            · have c_17h : ¬ (nI (ca tx L pz)) = (103 : Int32) := c_17
              exact absurd c_13 c_17
            · have c_17h : (nI (ca tx L pz)) = (103 : Int32) := c_17
              refine lv_aload_n hx hb dX6_statement_76 rfl (lv_at hl 2 rfl) ?_
              refine hk_cmv (wr := []) (va_runV (As := []) (rest := []) ⟨hx, hb, hml, hown, hts⟩ (c6_gateHere l D g ti _ mo ms mr mk mt mv me km ws L (pz + 1) fx tx fr n N o ty pa pb vo nm hX (by omega) hQ hM) (cwV 0 hts gX6_statement_X6_gateHere rfl rfl rfl (by decide +kernel) ⟨Nat.le_of_ble_eq_true rfl, Nat.le_of_ble_eq_true rfl⟩) (hk_inV hE hP hD hS hA 6 rfl rfl [0, 1, 2] (by decide) rfl rfl) rfl rfl hl.1 rfl (lv_room (Nat.le_of_ble_eq_true rfl)) dX6_statement_77 ⟨Nat.zero_le _, Nat.zero_le _⟩) hP hD hS hA [0, 1, 2] [] rfl rfl (by decide) (by decide) (fun ug H locs hgh hP hD hS => ?_)
              obtain ⟨rs8, q8, f8⟩ := ug
              try dsimp only at hgh
              have hP : va_P D vwCl [(mo, .inr (6, [.ref ms, .ref mr, .ref mk, .int (nI km), .ref mt, .int (nI L), .int (nI q8), .int rs8, .int (nI ws), .ref mv, .ref me])), (mt, .inl (g.2.1, 200, .inl fx)), (mr, .inl (g.2.1, 147, .inl f8))] H := hP
              have hD : va_D A [(mo, .inr (6, [.ref ms, .ref mr, .ref mk, .int (nI km), .ref mt, .int (nI L), .int (nI q8), .int rs8, .int (nI ws), .ref mv, .ref me])), (mt, .inl (g.2.1, 200, .inl fx)), (mr, .inl (g.2.1, 147, .inl f8))] := hD
              have hP9 := hP.sub (ws' := [(mo, .inr (6, [.ref ms, .ref mr, .ref mk, .int (nI km), .ref mt, .int (nI L), .int (nI q8), .int rs8, .int (nI ws), .ref mv, .ref me])), (mt, .inl (g.2.1, 200, .inl fx)), (mr, .inl (g.2.1, 147, .inl f8))]) [0, 1, 2] rfl
              have hD9 := hD.sub (ws' := [(mo, .inr (6, [.ref ms, .ref mr, .ref mk, .int (nI km), .ref mt, .int (nI L), .int (nI q8), .int rs8, .int (nI ws), .ref mv, .ref me])), (mt, .inl (g.2.1, 200, .inl fx)), (mr, .inl (g.2.1, 147, .inl f8))]) [0, 1, 2] (by decide) rfl
              exact W.vret hx hb hr (fun tt ht hW => ⟨⟨(rs8, q8, f8, ws), rfl, st_g ((mbB hbf (Or.inl (ca_e hX (k := 103) c_17))).1 c_16) (ca_e hX (k := 103) c_17) hw hgh, by rw [ht]; exact hP9, hD9⟩, hS.F ht⟩) hS.2.2 dX6_statement_80
          · have c_16h : ¬ (0 : Int32) = bf := c_16
            refine lv_aload_n hx hb dX6_statement_64 rfl (lv_at hl 2 rfl) ?_
            refine lv_iconst (v := 1) hx hb dX6_statement_65 (by decide) ?_
            refine va_put (D := D) (ci := 6) (v := .int 1) (ty := .int) (C := RX6) (T := TX6) (N := 11) hx hb hts hi6 tyX6 tyX6_ok nmX6 hown hK hP hD hS 0 rfl rfl 7 (by decide) (hts (.fieldLink RX6 56 "SelfCheckingCircuitModel" "reason" "I") (by decide +kernel)) (fun _ h9 => h9) rfl (by decide +kernel) rfl rfl (Nat.le_of_ble_eq_true rfl) dX6_statement_66 (fun H locs hP hD hS => ?_)
            have hP : va_P D vwCl [(mo, .inr (6, [.ref ms, .ref mr, .ref mk, .int (nI km), .ref mt, .int (nI L), .int (nI (pz + 1)), .int 1, .int (nI ws), .ref mv, .ref me])), (mt, .inl (g.2.1, 200, .inl fx)), (mr, .inl (g.2.1, 147, .inl fr))] H := hP
            have hD : va_D A [(mo, .inr (6, [.ref ms, .ref mr, .ref mk, .int (nI km), .ref mt, .int (nI L), .int (nI (pz + 1)), .int 1, .int (nI ws), .ref mv, .ref me])), (mt, .inl (g.2.1, 200, .inl fx)), (mr, .inl (g.2.1, 147, .inl fr))] := hD
            have hP9 := hP.sub (ws' := [(mo, .inr (6, [.ref ms, .ref mr, .ref mk, .int (nI km), .ref mt, .int (nI L), .int (nI (pz + 1)), .int 1, .int (nI ws), .ref mv, .ref me])), (mt, .inl (g.2.1, 200, .inl fx)), (mr, .inl (g.2.1, 147, .inl fr))]) [0, 1, 2] rfl
            have hD9 := hD.sub (ws' := [(mo, .inr (6, [.ref ms, .ref mr, .ref mk, .int (nI km), .ref mt, .int (nI L), .int (nI (pz + 1)), .int 1, .int (nI ws), .ref mv, .ref me])), (mt, .inl (g.2.1, 200, .inl fx)), (mr, .inl (g.2.1, 147, .inl fr))]) [0, 1, 2] (by decide) rfl
            exact W.vret hx hb hr (fun tt ht hW => ⟨⟨(1, (pz + 1), fr, ws), rfl, st_1 ((mbB hbf (Or.inl (ca_e hX (k := 103) c_13))).2 c_16), by rw [ht]; exact hP9, hD9⟩, hS.F ht⟩) hS.2.2 dX6_statement_69
        · have c_15h : (nI (ca tx L pz)) = (105 : Int32) := c_15
          exact absurd (c_13.symm.trans c_15) (by decide)
    · have c_13h : ¬ (nI (ca tx L pz)) = (103 : Int32) := c_13
      refine lv_iload_n hx hb dX6_statement_27 rfl (lv_at hl 0 rfl) ?_
      refine lv_bipush (v := 111) hx hb dX6_statement_28 (by decide) ?_
      refine lv_icmp_eq (tgt := 39) hx hb dX6_statement_30 (by decide) (fun c_19 => ?_) (fun c_19 => ?_)
      · have c_19h : (nI (ca tx L pz)) = (111 : Int32) := c_19
        refine lv_iconst (v := 1) hx hb dX6_statement_39 (by decide) ?_
        refine lv_goto (tgt := 44) hx hb dX6_statement_40 (by decide) ?_
        refine lv_istore_n (lv' := [(3, .int 1), (2, .int (nI (ca tx L pz))), (0, .ref mo), (1, .int bf)]) hx hb dX6_statement_44 rfl hl (by decide) rfl (fun ls hl => ?_)
        refine lv_iload_n hx hb dX6_statement_45 rfl (lv_at hl 0 rfl) ?_
        refine lv_if_eq (tgt := 64) hx hb dX6_statement_46 (by decide) (fun c_20 => ?_) (fun c_20 => ?_)
        · have c_20h : (1 : Int32) = (0 : Int32) := c_20
          exact absurd c_20 (by decide)
        · have c_20h : ¬ (1 : Int32) = (0 : Int32) := c_20
          refine lv_iload_n hx hb dX6_statement_49 rfl (lv_at hl 1 rfl) ?_
          refine lv_bipush (v := 105) hx hb dX6_statement_50 (by decide) ?_
          refine lv_icmp_ne (tgt := 59) hx hb dX6_statement_52 (by decide) (fun c_21 => ?_) (fun c_21 => ?_)
          · have c_21h : ¬ (nI (ca tx L pz)) = (105 : Int32) := c_21
            refine lv_iconst (v := 0) hx hb dX6_statement_59 (by decide) ?_
            refine lv_iload_n hx hb dX6_statement_60 rfl (lv_at hl 3 rfl) ?_
            refine lv_icmp_eq (tgt := 70) hx hb dX6_statement_61 (by decide) (fun c_22 => ?_) (fun c_22 => ?_)
            · have c_22h : (0 : Int32) = bf := c_22
              refine lv_iload_n hx hb dX6_statement_70 rfl (lv_at hl 1 rfl) ?_
              refine lv_bipush (v := 103) hx hb dX6_statement_71 (by decide) ?_
              refine lv_icmp_ne (tgt := 81) hx hb dX6_statement_73 (by decide) (fun c_23 => ?_) (fun c_23 => ?_)
              · have c_23h : ¬ (nI (ca tx L pz)) = (103 : Int32) := c_23
                refine lv_aload_n hx hb dX6_statement_81 rfl (lv_at hl 2 rfl) ?_
                refine hk_cmi (wr := [(mr, .inl (g.2.1, 147, .inl fr))]) (va_runV (As := []) (rest := []) ⟨hx, hb, hml, hown, hts⟩ (c6_number l D g ti _ mo ms mr mk mt mv me km ws L (pz + 1) 0 fx tx hX (by omega)) (cwV 0 hts gX6_statement_X6_number rfl rfl rfl (by decide +kernel) ⟨Nat.le_of_ble_eq_true rfl, Nat.le_of_ble_eq_true rfl⟩) (hk_inV hE hP hD hS hA 6 rfl rfl [0, 1] (by decide) rfl rfl) rfl rfl hl.1 rfl (lv_room (Nat.le_of_ble_eq_true rfl)) dX6_statement_82 ⟨Nat.zero_le _, Nat.zero_le _⟩) hP hD hS hA [0, 1] [2] rfl rfl (by decide) (by decide) (fun r1 un1 H locs hn1 hP hD hS => ?_)
                obtain ⟨rsa1, p1⟩ := un1
                try dsimp only at hn1
                have hP : va_P D vwCl [(mr, .inl (g.2.1, 147, .inl fr)), (mo, .inr (6, [.ref ms, .ref mr, .ref mk, .int (nI km), .ref mt, .int (nI L), .int (nI p1), .int rsa1, .int (nI ws), .ref mv, .ref me])), (mt, .inl (g.2.1, 200, .inl fx))] H := hP
                have hD : va_D A [(mr, .inl (g.2.1, 147, .inl fr)), (mo, .inr (6, [.ref ms, .ref mr, .ref mk, .int (nI km), .ref mt, .int (nI L), .int (nI p1), .int rsa1, .int (nI ws), .ref mv, .ref me])), (mt, .inl (g.2.1, 200, .inl fx))] := hD
                refine lv_istore (lv' := [(4, .int r1), (3, .int 1), (2, .int (nI (ca tx L pz))), (0, .ref mo), (1, .int bf)]) hx hb dX6_statement_85 hl (by decide) rfl (fun ls hl => ?_)
                refine lv_aload_n hx hb dX6_statement_87 rfl (lv_at hl 3 rfl) ?_
                refine lv_bipush (v := 59) hx hb dX6_statement_88 (by decide) ?_
                refine hk_cmv (wr := [(mr, .inl (g.2.1, 147, .inl fr))]) (va_runV (As := [.int 59]) (rest := []) ⟨hx, hb, hml, hown, hts⟩ (c6_sign l D g ti _ mo ms mr mk mt mv me km ws L p1 rsa1 fx tx 59 hX (by have := hn1.2.2; omega)) (cwV 1 hts gX6_statement_X6_sign rfl rfl rfl (by decide +kernel) ⟨Nat.le_of_ble_eq_true rfl, Nat.le_of_ble_eq_true rfl⟩) (hk_inV hE hP hD hS hA 6 rfl rfl [1, 2] (by decide) rfl rfl) rfl rfl hl.1 rfl (lv_room (Nat.le_of_ble_eq_true rfl)) dX6_statement_90 ⟨Nat.zero_le _, Nat.zero_le _⟩) hP hD hS hA [1, 2] [0] rfl rfl (by decide) (by decide) (fun rsb1 H locs hs1 hP hD hS => ?_)
                try dsimp only at hs1
                have hP : va_P D vwCl [(mr, .inl (g.2.1, 147, .inl fr)), (mo, .inr (6, [.ref ms, .ref mr, .ref mk, .int (nI km), .ref mt, .int (nI L), .int (nI (p1 + 1)), .int rsb1, .int (nI ws), .ref mv, .ref me])), (mt, .inl (g.2.1, 200, .inl fx))] H := hP
                have hD : va_D A [(mr, .inl (g.2.1, 147, .inl fr)), (mo, .inr (6, [.ref ms, .ref mr, .ref mk, .int (nI km), .ref mt, .int (nI L), .int (nI (p1 + 1)), .int rsb1, .int (nI ws), .ref mv, .ref me])), (mt, .inl (g.2.1, 200, .inl fx))] := hD
                have hSF := sf_1 hX hn1 hs1
                refine lv_iload_n hx hb dX6_statement_93 rfl (lv_at hl 2 rfl) ?_
                refine lv_bipush (v := 105) hx hb dX6_statement_94 (by decide) ?_
                refine lv_icmp_ne (tgt := 125) hx hb dX6_statement_96 (by decide) (fun c_25 => ?_) (fun c_25 => ?_)
                · have c_25h : ¬ (nI (ca tx L pz)) = (105 : Int32) := c_25
                  refine lv_iload_n hx hb dX6_statement_125 rfl (lv_at hl 2 rfl) ?_
                  refine lv_bipush (v := 111) hx hb dX6_statement_126 (by decide) ?_
                  refine lv_icmp_ne (tgt := 196) hx hb dX6_statement_128 (by decide) (fun c_26 => ?_) (fun c_26 => ?_)
                  · have c_26h : ¬ (nI (ca tx L pz)) = (111 : Int32) := c_26
                    exact absurd c_19 c_26
                  · have c_26h : (nI (ca tx L pz)) = (111 : Int32) := c_26
                    refine lv_aload_n hx hb dX6_statement_131 rfl (lv_at hl 3 rfl) ?_
                    refine lv_aload_n hx hb dX6_statement_132 rfl (lv_at hl 3 rfl) ?_
                    refine lv_iload hx hb dX6_statement_133 (lv_at hl 0 rfl) ?_
                    refine hk_csi (va_runV (As := [.int r1]) (rest := [.ref mo]) ⟨hx, hb, hml, hown, hts⟩ (c6_isNodeOf l D g ti mo ms mr mk mt mv me km ws L (p1 + 1) rsb1 fr N r1 (mr_N hM hQ.2.1)) (cwV 1 hts gX6_statement_X6_isNodeOf rfl rfl rfl (by decide +kernel) ⟨Nat.le_of_ble_eq_true rfl, Nat.le_of_ble_eq_true rfl⟩) (hk_roV hE hP hS 6 rfl rfl [1, 0] rfl rfl) rfl rfl hl.1 rfl (lv_room (Nat.le_of_ble_eq_true rfl)) dX6_statement_135 ⟨Nat.zero_le _, Nat.zero_le _⟩) (fun r_27 hr_28 => ?_)
                    subst hr_28
                    refine lv_aload_n hx hb dX6_statement_138 rfl (lv_at hl 3 rfl) ?_
                    refine va_get (D := D) (ci := 6) (v := .ref mr) (C := RX6) (T := TX6) (N := 11) hx hb hts hi6 hown hK hP 1 rfl rfl 1 (by decide) (hts (.fieldLink RX6 13 "SelfCheckingCircuitModel" "read" "[I") (by decide +kernel)) (fun _ h9 => h9) rfl dX6_statement_139 ?_
                    refine lv_bipush (v := 74) hx hb dX6_statement_142 (by decide) ?_
                    refine va_iald hx hb hK hP 0 1 rfl rfl (by unfold vp_in; decide) dX6_statement_144 ?_
                    refine hk_ti (fr 74) (congrArg fr (by decide)) ?_
                    refine hk_ti (nI o) (hM.1.2.2.1) ?_
                    refine lv_bipush (v := 6) hx hb dX6_statement_145 (by decide) ?_
                    refine lv_icmp_ge (tgt := 154) hx hb dX6_statement_147 (by decide) (fun c_29 => ?_) (fun c_29 => ?_)
                    · have c_29h : (6 : Int32) ≤ nI o := c_29
                      refine lv_iconst (v := 0) hx hb dX6_statement_154 (by decide) ?_
                      refine hk_cmv (wr := [(mr, .inl (g.2.1, 147, .inl fr)), (mt, .inl (g.2.1, 200, .inl fx))]) (va_runV (As := [.int (if nI N ≤ r1 then 0 else 1), .int 0]) (rest := []) ⟨hx, hb, hml, hown, hts⟩ (c6_checked l D g ti _ mo ms mr mk mt mv me km ws L (p1 + 1) rsb1 (if nI N ≤ r1 then 0 else 1) 0 ) (cwV 2 hts gX6_statement_X6_checked rfl rfl rfl (by decide +kernel) ⟨Nat.le_of_ble_eq_true rfl, Nat.le_of_ble_eq_true rfl⟩) (hk_inV hE hP hD hS hA 6 rfl rfl [1] (by decide) rfl rfl) rfl rfl hl.1 rfl (lv_room (Nat.le_of_ble_eq_true rfl)) dX6_statement_155 ⟨Nat.zero_le _, Nat.zero_le _⟩) hP hD hS hA [1] [0, 2] rfl rfl (by decide) (by decide) (fun rs7 H locs hck hP hD hS => ?_)
                      try dsimp only at hck
                      have hP : va_P D vwCl [(mr, .inl (g.2.1, 147, .inl fr)), (mt, .inl (g.2.1, 200, .inl fx)), (mo, .inr (6, [.ref ms, .ref mr, .ref mk, .int (nI km), .ref mt, .int (nI L), .int (nI (p1 + 1)), .int rs7, .int (nI ws), .ref mv, .ref me]))] H := hP
                      have hD : va_D A [(mr, .inl (g.2.1, 147, .inl fr)), (mt, .inl (g.2.1, 200, .inl fx)), (mo, .inr (6, [.ref ms, .ref mr, .ref mk, .int (nI km), .ref mt, .int (nI L), .int (nI (p1 + 1)), .int rs7, .int (nI ws), .ref mv, .ref me]))] := hD
                      refine lv_aload_n hx hb dX6_statement_158 rfl (lv_at hl 3 rfl) ?_
                      refine va_get (D := D) (ci := 6) (v := .int rs7) (C := RX6) (T := TX6) (N := 11) hx hb hts hi6 hown hK hP 2 rfl rfl 7 (by decide) (hts (.fieldLink RX6 56 "SelfCheckingCircuitModel" "reason" "I") (by decide +kernel)) (fun _ h9 => h9) rfl dX6_statement_159 ?_
                      refine lv_if_ne (tgt := 247) hx hb dX6_statement_162 (by decide) (fun c_31 => ?_) (fun c_31 => ?_)
                      · have c_31h : ¬ rs7 = (0 : Int32) := c_31
                        have hP9 := hP.sub (ws' := [(mo, .inr (6, [.ref ms, .ref mr, .ref mk, .int (nI km), .ref mt, .int (nI L), .int (nI (p1 + 1)), .int rs7, .int (nI ws), .ref mv, .ref me])), (mt, .inl (g.2.1, 200, .inl fx)), (mr, .inl (g.2.1, 147, .inl fr))]) [2, 1, 0] rfl
                        have hD9 := hD.sub (ws' := [(mo, .inr (6, [.ref ms, .ref mr, .ref mk, .int (nI km), .ref mt, .int (nI L), .int (nI (p1 + 1)), .int rs7, .int (nI ws), .ref mv, .ref me])), (mt, .inl (g.2.1, 200, .inl fx)), (mr, .inl (g.2.1, 147, .inl fr))]) [2, 1, 0] (by decide) rfl
                        exact W.vret hx hb hr (fun tt ht hW => ⟨⟨(rs7, (p1 + 1), fr, ws), rfl, st_on hX (by omega) ((mbB hbf (Or.inr (Or.inl (ca_e hX (k := 111) c_26)))).1 c_22) (ca_e hX (k := 111) c_26) hSF hck (Or.inr ⟨rfl, by have := hk_ge 6 c_29 (hi := by omega); omega⟩) c_31, by rw [ht]; exact hP9, hD9⟩, hS.F ht⟩) hS.2.2 dX6_statement_247
                      · have c_31h : rs7 = (0 : Int32) := c_31
                        exact absurd rfl (ck_0 hck c_31).2.2
                    · have c_29h : ¬ (6 : Int32) ≤ nI o := c_29
                      refine lv_iconst (v := 1) hx hb dX6_statement_150 (by decide) ?_
                      refine lv_goto (tgt := 155) hx hb dX6_statement_151 (by decide) ?_
                      refine hk_cmv (wr := [(mr, .inl (g.2.1, 147, .inl fr)), (mt, .inl (g.2.1, 200, .inl fx))]) (va_runV (As := [.int (if nI N ≤ r1 then 0 else 1), .int 1]) (rest := []) ⟨hx, hb, hml, hown, hts⟩ (c6_checked l D g ti _ mo ms mr mk mt mv me km ws L (p1 + 1) rsb1 (if nI N ≤ r1 then 0 else 1) 1 ) (cwV 2 hts gX6_statement_X6_checked rfl rfl rfl (by decide +kernel) ⟨Nat.le_of_ble_eq_true rfl, Nat.le_of_ble_eq_true rfl⟩) (hk_inV hE hP hD hS hA 6 rfl rfl [1] (by decide) rfl rfl) rfl rfl hl.1 rfl (lv_room (Nat.le_of_ble_eq_true rfl)) dX6_statement_155 ⟨Nat.zero_le _, Nat.zero_le _⟩) hP hD hS hA [1] [0, 2] rfl rfl (by decide) (by decide) (fun rs7 H locs hck hP hD hS => ?_)
                      try dsimp only at hck
                      have hP : va_P D vwCl [(mr, .inl (g.2.1, 147, .inl fr)), (mt, .inl (g.2.1, 200, .inl fx)), (mo, .inr (6, [.ref ms, .ref mr, .ref mk, .int (nI km), .ref mt, .int (nI L), .int (nI (p1 + 1)), .int rs7, .int (nI ws), .ref mv, .ref me]))] H := hP
                      have hD : va_D A [(mr, .inl (g.2.1, 147, .inl fr)), (mt, .inl (g.2.1, 200, .inl fx)), (mo, .inr (6, [.ref ms, .ref mr, .ref mk, .int (nI km), .ref mt, .int (nI L), .int (nI (p1 + 1)), .int rs7, .int (nI ws), .ref mv, .ref me]))] := hD
                      refine lv_aload_n hx hb dX6_statement_158 rfl (lv_at hl 3 rfl) ?_
                      refine va_get (D := D) (ci := 6) (v := .int rs7) (C := RX6) (T := TX6) (N := 11) hx hb hts hi6 hown hK hP 2 rfl rfl 7 (by decide) (hts (.fieldLink RX6 56 "SelfCheckingCircuitModel" "reason" "I") (by decide +kernel)) (fun _ h9 => h9) rfl dX6_statement_159 ?_
                      refine lv_if_ne (tgt := 247) hx hb dX6_statement_162 (by decide) (fun c_33 => ?_) (fun c_33 => ?_)
                      · have c_33h : ¬ rs7 = (0 : Int32) := c_33
                        have hP9 := hP.sub (ws' := [(mo, .inr (6, [.ref ms, .ref mr, .ref mk, .int (nI km), .ref mt, .int (nI L), .int (nI (p1 + 1)), .int rs7, .int (nI ws), .ref mv, .ref me])), (mt, .inl (g.2.1, 200, .inl fx)), (mr, .inl (g.2.1, 147, .inl fr))]) [2, 1, 0] rfl
                        have hD9 := hD.sub (ws' := [(mo, .inr (6, [.ref ms, .ref mr, .ref mk, .int (nI km), .ref mt, .int (nI L), .int (nI (p1 + 1)), .int rs7, .int (nI ws), .ref mv, .ref me])), (mt, .inl (g.2.1, 200, .inl fx)), (mr, .inl (g.2.1, 147, .inl fr))]) [2, 1, 0] (by decide) rfl
                        exact W.vret hx hb hr (fun tt ht hW => ⟨⟨(rs7, (p1 + 1), fr, ws), rfl, st_on hX (by omega) ((mbB hbf (Or.inr (Or.inl (ca_e hX (k := 111) c_26)))).1 c_22) (ca_e hX (k := 111) c_26) hSF hck (Or.inl ⟨rfl, hk_nge 6 c_29 (hi := by omega)⟩) c_33, by rw [ht]; exact hP9, hD9⟩, hS.F ht⟩) hS.2.2 dX6_statement_247
                      · have c_33h : rs7 = (0 : Int32) := c_33
                        have hsy := sf_y hSF hck c_33
                        have e9 := hsy.2.1
                        subst e9
                        refine lv_aload_n hx hb dX6_statement_165 rfl (lv_at hl 3 rfl) ?_
                        refine va_get (D := D) (ci := 6) (v := .ref mr) (C := RX6) (T := TX6) (N := 11) hx hb hts hi6 hown hK hP 2 rfl rfl 1 (by decide) (hts (.fieldLink RX6 13 "SelfCheckingCircuitModel" "read" "[I") (by decide +kernel)) (fun _ h9 => h9) rfl dX6_statement_166 ?_
                        refine lv_bipush (v := 75) hx hb dX6_statement_169 (by decide) ?_
                        refine lv_aload_n hx hb dX6_statement_171 rfl (lv_at hl 3 rfl) ?_
                        refine va_get (D := D) (ci := 6) (v := .ref mr) (C := RX6) (T := TX6) (N := 11) hx hb hts hi6 hown hK hP 2 rfl rfl 1 (by decide) (hts (.fieldLink RX6 13 "SelfCheckingCircuitModel" "read" "[I") (by decide +kernel)) (fun _ h9 => h9) rfl dX6_statement_172 ?_
                        refine lv_bipush (v := 74) hx hb dX6_statement_175 (by decide) ?_
                        refine va_iald hx hb hK hP 0 1 rfl rfl (by unfold vp_in; decide) dX6_statement_177 ?_
                        refine hk_ti (fr 74) (congrArg fr (by decide)) ?_
                        refine hk_ti (nI o) (hM.1.2.2.1) ?_
                        refine lv_iadd hx hb dX6_statement_178 ?_
                        refine hk_ti (nI (75 + o)) (nI_add 75 o) ?_
                        refine lv_iload hx hb dX6_statement_179 (lv_at hl 0 rfl) ?_
                        refine va_iast hx hb hK hP hD hS 0 1 rfl rfl (vp_in_nI (N := 147) (by omega) (by decide)) dX6_statement_181 (fun H locs hP hD hS => ?_)
                        rw [show (nI (75 + o)).toNatClampNeg = 75 + o from nI_clamp (by omega)] at hP hD
                        have hP : va_P D vwCl [(mr, .inl (g.2.1, 147, .inl (upd fr (75 + o) (nI (cV tx L (pz + 1)))))), (mt, .inl (g.2.1, 200, .inl fx)), (mo, .inr (6, [.ref ms, .ref mr, .ref mk, .int (nI km), .ref mt, .int (nI L), .int (nI (p1 + 1)), .int rs7, .int (nI ws), .ref mv, .ref me]))] H := hP
                        have hD : va_D A [(mr, .inl (g.2.1, 147, .inl (upd fr (75 + o) (nI (cV tx L (pz + 1)))))), (mt, .inl (g.2.1, 200, .inl fx)), (mo, .inr (6, [.ref ms, .ref mr, .ref mk, .int (nI km), .ref mt, .int (nI L), .int (nI (p1 + 1)), .int rs7, .int (nI ws), .ref mv, .ref me]))] := hD
                        refine lv_aload_n hx hb dX6_statement_182 rfl (lv_at hl 3 rfl) ?_
                        refine va_get (D := D) (ci := 6) (v := .ref mr) (C := RX6) (T := TX6) (N := 11) hx hb hts hi6 hown hK hP 2 rfl rfl 1 (by decide) (hts (.fieldLink RX6 13 "SelfCheckingCircuitModel" "read" "[I") (by decide +kernel)) (fun _ h9 => h9) rfl dX6_statement_183 ?_
                        refine lv_bipush (v := 74) hx hb dX6_statement_186 (by decide) ?_
                        refine lv_dup2_11 hx hb dX6_statement_188 rfl rfl ?_
                        refine va_iald hx hb hK hP 0 1 rfl rfl (by unfold vp_in; decide) dX6_statement_189 ?_
                        refine hk_ti ((upd fr (75 + o) (nI (cV tx L (pz + 1)))) 74) (congrArg (upd fr (75 + o) (nI (cV tx L (pz + 1)))) (by decide)) ?_
                        refine hk_ti (nI o) (by rw [pk_un (by omega)]; exact hM.1.2.2.1) ?_
                        refine lv_iconst (v := 1) hx hb dX6_statement_190 (by decide) ?_
                        refine lv_iadd hx hb dX6_statement_191 ?_
                        refine hk_ti (nI (o + 1)) (nI_1 o) ?_
                        refine va_iast hx hb hK hP hD hS 0 1 rfl rfl (by unfold vp_in; decide) dX6_statement_192 (fun H locs hP hD hS => ?_)
                        rw [show (74 : Int32).toNatClampNeg = 74 from by decide] at hP hD
                        have hP : va_P D vwCl [(mr, .inl (g.2.1, 147, .inl (upd (upd fr (75 + o) (nI (cV tx L (pz + 1)))) 74 (nI (o + 1))))), (mt, .inl (g.2.1, 200, .inl fx)), (mo, .inr (6, [.ref ms, .ref mr, .ref mk, .int (nI km), .ref mt, .int (nI L), .int (nI (p1 + 1)), .int rs7, .int (nI ws), .ref mv, .ref me]))] H := hP
                        have hD : va_D A [(mr, .inl (g.2.1, 147, .inl (upd (upd fr (75 + o) (nI (cV tx L (pz + 1)))) 74 (nI (o + 1))))), (mt, .inl (g.2.1, 200, .inl fx)), (mo, .inr (6, [.ref ms, .ref mr, .ref mk, .int (nI km), .ref mt, .int (nI L), .int (nI (p1 + 1)), .int rs7, .int (nI ws), .ref mv, .ref me]))] := hD
                        refine lv_goto (tgt := 247) hx hb dX6_statement_193 (by decide) ?_
                        have hP9 := hP.sub (ws' := [(mo, .inr (6, [.ref ms, .ref mr, .ref mk, .int (nI km), .ref mt, .int (nI L), .int (nI (p1 + 1)), .int rs7, .int (nI ws), .ref mv, .ref me])), (mt, .inl (g.2.1, 200, .inl fx)), (mr, .inl (g.2.1, 147, .inl (upd (upd fr (75 + o) (nI (cV tx L (pz + 1)))) 74 (nI (o + 1)))))]) [2, 1, 0] rfl
                        have hD9 := hD.sub (ws' := [(mo, .inr (6, [.ref ms, .ref mr, .ref mk, .int (nI km), .ref mt, .int (nI L), .int (nI (p1 + 1)), .int rs7, .int (nI ws), .ref mv, .ref me])), (mt, .inl (g.2.1, 200, .inl fx)), (mr, .inl (g.2.1, 147, .inl (upd (upd fr (75 + o) (nI (cV tx L (pz + 1)))) 74 (nI (o + 1)))))]) [2, 1, 0] (by decide) rfl
                        exact W.vret hx hb hr (fun tt ht hW => ⟨⟨(rs7, (p1 + 1), (upd (upd fr (75 + o) (nI (cV tx L (pz + 1)))) 74 (nI (o + 1))), ws), rfl, st_oy hX (by omega) hQ.2.2.1 ((mbB hbf (Or.inr (Or.inl (ca_e hX (k := 111) c_26)))).1 c_22) (ca_e hX (k := 111) c_26) hsy.1 hsy.2.2.1 hsy.2.2.2.1 (hk_nge 6 c_29 (hi := by omega)) c_33 hM hw, by rw [ht]; exact hP9, hD9⟩, hS.F ht⟩) hS.2.2 dX6_statement_247
                · have c_25h : (nI (ca tx L pz)) = (105 : Int32) := c_25
                  exact absurd (c_19.symm.trans c_25) (by decide)
              · have c_23h : (nI (ca tx L pz)) = (103 : Int32) := c_23
                exact absurd (c_19.symm.trans c_23) (by decide)
            · have c_22h : ¬ (0 : Int32) = bf := c_22
              refine lv_aload_n hx hb dX6_statement_64 rfl (lv_at hl 2 rfl) ?_
              refine lv_iconst (v := 1) hx hb dX6_statement_65 (by decide) ?_
              refine va_put (D := D) (ci := 6) (v := .int 1) (ty := .int) (C := RX6) (T := TX6) (N := 11) hx hb hts hi6 tyX6 tyX6_ok nmX6 hown hK hP hD hS 0 rfl rfl 7 (by decide) (hts (.fieldLink RX6 56 "SelfCheckingCircuitModel" "reason" "I") (by decide +kernel)) (fun _ h9 => h9) rfl (by decide +kernel) rfl rfl (Nat.le_of_ble_eq_true rfl) dX6_statement_66 (fun H locs hP hD hS => ?_)
              have hP : va_P D vwCl [(mo, .inr (6, [.ref ms, .ref mr, .ref mk, .int (nI km), .ref mt, .int (nI L), .int (nI (pz + 1)), .int 1, .int (nI ws), .ref mv, .ref me])), (mt, .inl (g.2.1, 200, .inl fx)), (mr, .inl (g.2.1, 147, .inl fr))] H := hP
              have hD : va_D A [(mo, .inr (6, [.ref ms, .ref mr, .ref mk, .int (nI km), .ref mt, .int (nI L), .int (nI (pz + 1)), .int 1, .int (nI ws), .ref mv, .ref me])), (mt, .inl (g.2.1, 200, .inl fx)), (mr, .inl (g.2.1, 147, .inl fr))] := hD
              have hP9 := hP.sub (ws' := [(mo, .inr (6, [.ref ms, .ref mr, .ref mk, .int (nI km), .ref mt, .int (nI L), .int (nI (pz + 1)), .int 1, .int (nI ws), .ref mv, .ref me])), (mt, .inl (g.2.1, 200, .inl fx)), (mr, .inl (g.2.1, 147, .inl fr))]) [0, 1, 2] rfl
              have hD9 := hD.sub (ws' := [(mo, .inr (6, [.ref ms, .ref mr, .ref mk, .int (nI km), .ref mt, .int (nI L), .int (nI (pz + 1)), .int 1, .int (nI ws), .ref mv, .ref me])), (mt, .inl (g.2.1, 200, .inl fx)), (mr, .inl (g.2.1, 147, .inl fr))]) [0, 1, 2] (by decide) rfl
              exact W.vret hx hb hr (fun tt ht hW => ⟨⟨(1, (pz + 1), fr, ws), rfl, st_1 ((mbB hbf (Or.inr (Or.inl (ca_e hX (k := 111) c_19)))).2 c_22), by rw [ht]; exact hP9, hD9⟩, hS.F ht⟩) hS.2.2 dX6_statement_69
          · have c_21h : (nI (ca tx L pz)) = (105 : Int32) := c_21
            exact absurd (c_19.symm.trans c_21) (by decide)
      · have c_19h : ¬ (nI (ca tx L pz)) = (111 : Int32) := c_19
        refine lv_iload_n hx hb dX6_statement_33 rfl (lv_at hl 0 rfl) ?_
        refine lv_bipush (v := 119) hx hb dX6_statement_34 (by decide) ?_
        refine lv_icmp_ne (tgt := 43) hx hb dX6_statement_36 (by decide) (fun c_34 => ?_) (fun c_34 => ?_)
        · have c_34h : ¬ (nI (ca tx L pz)) = (119 : Int32) := c_34
          refine lv_iconst (v := 0) hx hb dX6_statement_43 (by decide) ?_
          refine lv_istore_n (lv' := [(3, .int 0), (2, .int (nI (ca tx L pz))), (0, .ref mo), (1, .int bf)]) hx hb dX6_statement_44 rfl hl (by decide) rfl (fun ls hl => ?_)
          refine lv_iload_n hx hb dX6_statement_45 rfl (lv_at hl 0 rfl) ?_
          refine lv_if_eq (tgt := 64) hx hb dX6_statement_46 (by decide) (fun c_35 => ?_) (fun c_35 => ?_)
          · have c_35h : (0 : Int32) = (0 : Int32) := c_35
            refine lv_aload_n hx hb dX6_statement_64 rfl (lv_at hl 2 rfl) ?_
            refine lv_iconst (v := 1) hx hb dX6_statement_65 (by decide) ?_
            refine va_put (D := D) (ci := 6) (v := .int 1) (ty := .int) (C := RX6) (T := TX6) (N := 11) hx hb hts hi6 tyX6 tyX6_ok nmX6 hown hK hP hD hS 0 rfl rfl 7 (by decide) (hts (.fieldLink RX6 56 "SelfCheckingCircuitModel" "reason" "I") (by decide +kernel)) (fun _ h9 => h9) rfl (by decide +kernel) rfl rfl (Nat.le_of_ble_eq_true rfl) dX6_statement_66 (fun H locs hP hD hS => ?_)
            have hP : va_P D vwCl [(mo, .inr (6, [.ref ms, .ref mr, .ref mk, .int (nI km), .ref mt, .int (nI L), .int (nI (pz + 1)), .int 1, .int (nI ws), .ref mv, .ref me])), (mt, .inl (g.2.1, 200, .inl fx)), (mr, .inl (g.2.1, 147, .inl fr))] H := hP
            have hD : va_D A [(mo, .inr (6, [.ref ms, .ref mr, .ref mk, .int (nI km), .ref mt, .int (nI L), .int (nI (pz + 1)), .int 1, .int (nI ws), .ref mv, .ref me])), (mt, .inl (g.2.1, 200, .inl fx)), (mr, .inl (g.2.1, 147, .inl fr))] := hD
            have hP9 := hP.sub (ws' := [(mo, .inr (6, [.ref ms, .ref mr, .ref mk, .int (nI km), .ref mt, .int (nI L), .int (nI (pz + 1)), .int 1, .int (nI ws), .ref mv, .ref me])), (mt, .inl (g.2.1, 200, .inl fx)), (mr, .inl (g.2.1, 147, .inl fr))]) [0, 1, 2] rfl
            have hD9 := hD.sub (ws' := [(mo, .inr (6, [.ref ms, .ref mr, .ref mk, .int (nI km), .ref mt, .int (nI L), .int (nI (pz + 1)), .int 1, .int (nI ws), .ref mv, .ref me])), (mt, .inl (g.2.1, 200, .inl fx)), (mr, .inl (g.2.1, 147, .inl fr))]) [0, 1, 2] (by decide) rfl
            exact W.vret hx hb hr (fun tt ht hW => ⟨⟨(1, (pz + 1), fr, ws), rfl, st_1 (mbC (ca_n (k := 105) c_3) (ca_n (k := 103) c_13) (ca_n (k := 111) c_19) (ca_n (k := 119) c_34)), by rw [ht]; exact hP9, hD9⟩, hS.F ht⟩) hS.2.2 dX6_statement_69
          · have c_35h : ¬ (0 : Int32) = (0 : Int32) := c_35
            exact absurd c_35 (by decide)
        · have c_34h : (nI (ca tx L pz)) = (119 : Int32) := c_34
          refine lv_iconst (v := 1) hx hb dX6_statement_39 (by decide) ?_
          refine lv_goto (tgt := 44) hx hb dX6_statement_40 (by decide) ?_
          refine lv_istore_n (lv' := [(3, .int 1), (2, .int (nI (ca tx L pz))), (0, .ref mo), (1, .int bf)]) hx hb dX6_statement_44 rfl hl (by decide) rfl (fun ls hl => ?_)
          refine lv_iload_n hx hb dX6_statement_45 rfl (lv_at hl 0 rfl) ?_
          refine lv_if_eq (tgt := 64) hx hb dX6_statement_46 (by decide) (fun c_36 => ?_) (fun c_36 => ?_)
          · have c_36h : (1 : Int32) = (0 : Int32) := c_36
            exact absurd c_36 (by decide)
          · have c_36h : ¬ (1 : Int32) = (0 : Int32) := c_36
            refine lv_iload_n hx hb dX6_statement_49 rfl (lv_at hl 1 rfl) ?_
            refine lv_bipush (v := 105) hx hb dX6_statement_50 (by decide) ?_
            refine lv_icmp_ne (tgt := 59) hx hb dX6_statement_52 (by decide) (fun c_37 => ?_) (fun c_37 => ?_)
            · have c_37h : ¬ (nI (ca tx L pz)) = (105 : Int32) := c_37
              refine lv_iconst (v := 0) hx hb dX6_statement_59 (by decide) ?_
              refine lv_iload_n hx hb dX6_statement_60 rfl (lv_at hl 3 rfl) ?_
              refine lv_icmp_eq (tgt := 70) hx hb dX6_statement_61 (by decide) (fun c_38 => ?_) (fun c_38 => ?_)
              · have c_38h : (0 : Int32) = bf := c_38
                refine lv_iload_n hx hb dX6_statement_70 rfl (lv_at hl 1 rfl) ?_
                refine lv_bipush (v := 103) hx hb dX6_statement_71 (by decide) ?_
                refine lv_icmp_ne (tgt := 81) hx hb dX6_statement_73 (by decide) (fun c_39 => ?_) (fun c_39 => ?_)
                · have c_39h : ¬ (nI (ca tx L pz)) = (103 : Int32) := c_39
                  refine lv_aload_n hx hb dX6_statement_81 rfl (lv_at hl 2 rfl) ?_
                  refine hk_cmi (wr := [(mr, .inl (g.2.1, 147, .inl fr))]) (va_runV (As := []) (rest := []) ⟨hx, hb, hml, hown, hts⟩ (c6_number l D g ti _ mo ms mr mk mt mv me km ws L (pz + 1) 0 fx tx hX (by omega)) (cwV 0 hts gX6_statement_X6_number rfl rfl rfl (by decide +kernel) ⟨Nat.le_of_ble_eq_true rfl, Nat.le_of_ble_eq_true rfl⟩) (hk_inV hE hP hD hS hA 6 rfl rfl [0, 1] (by decide) rfl rfl) rfl rfl hl.1 rfl (lv_room (Nat.le_of_ble_eq_true rfl)) dX6_statement_82 ⟨Nat.zero_le _, Nat.zero_le _⟩) hP hD hS hA [0, 1] [2] rfl rfl (by decide) (by decide) (fun r1 un1 H locs hn1 hP hD hS => ?_)
                  obtain ⟨rsa1, p1⟩ := un1
                  try dsimp only at hn1
                  have hP : va_P D vwCl [(mr, .inl (g.2.1, 147, .inl fr)), (mo, .inr (6, [.ref ms, .ref mr, .ref mk, .int (nI km), .ref mt, .int (nI L), .int (nI p1), .int rsa1, .int (nI ws), .ref mv, .ref me])), (mt, .inl (g.2.1, 200, .inl fx))] H := hP
                  have hD : va_D A [(mr, .inl (g.2.1, 147, .inl fr)), (mo, .inr (6, [.ref ms, .ref mr, .ref mk, .int (nI km), .ref mt, .int (nI L), .int (nI p1), .int rsa1, .int (nI ws), .ref mv, .ref me])), (mt, .inl (g.2.1, 200, .inl fx))] := hD
                  refine lv_istore (lv' := [(4, .int r1), (3, .int 1), (2, .int (nI (ca tx L pz))), (0, .ref mo), (1, .int bf)]) hx hb dX6_statement_85 hl (by decide) rfl (fun ls hl => ?_)
                  refine lv_aload_n hx hb dX6_statement_87 rfl (lv_at hl 3 rfl) ?_
                  refine lv_bipush (v := 59) hx hb dX6_statement_88 (by decide) ?_
                  refine hk_cmv (wr := [(mr, .inl (g.2.1, 147, .inl fr))]) (va_runV (As := [.int 59]) (rest := []) ⟨hx, hb, hml, hown, hts⟩ (c6_sign l D g ti _ mo ms mr mk mt mv me km ws L p1 rsa1 fx tx 59 hX (by have := hn1.2.2; omega)) (cwV 1 hts gX6_statement_X6_sign rfl rfl rfl (by decide +kernel) ⟨Nat.le_of_ble_eq_true rfl, Nat.le_of_ble_eq_true rfl⟩) (hk_inV hE hP hD hS hA 6 rfl rfl [1, 2] (by decide) rfl rfl) rfl rfl hl.1 rfl (lv_room (Nat.le_of_ble_eq_true rfl)) dX6_statement_90 ⟨Nat.zero_le _, Nat.zero_le _⟩) hP hD hS hA [1, 2] [0] rfl rfl (by decide) (by decide) (fun rsb1 H locs hs1 hP hD hS => ?_)
                  try dsimp only at hs1
                  have hP : va_P D vwCl [(mr, .inl (g.2.1, 147, .inl fr)), (mo, .inr (6, [.ref ms, .ref mr, .ref mk, .int (nI km), .ref mt, .int (nI L), .int (nI (p1 + 1)), .int rsb1, .int (nI ws), .ref mv, .ref me])), (mt, .inl (g.2.1, 200, .inl fx))] H := hP
                  have hD : va_D A [(mr, .inl (g.2.1, 147, .inl fr)), (mo, .inr (6, [.ref ms, .ref mr, .ref mk, .int (nI km), .ref mt, .int (nI L), .int (nI (p1 + 1)), .int rsb1, .int (nI ws), .ref mv, .ref me])), (mt, .inl (g.2.1, 200, .inl fx))] := hD
                  have hSF := sf_1 hX hn1 hs1
                  refine lv_iload_n hx hb dX6_statement_93 rfl (lv_at hl 2 rfl) ?_
                  refine lv_bipush (v := 105) hx hb dX6_statement_94 (by decide) ?_
                  refine lv_icmp_ne (tgt := 125) hx hb dX6_statement_96 (by decide) (fun c_41 => ?_) (fun c_41 => ?_)
                  · have c_41h : ¬ (nI (ca tx L pz)) = (105 : Int32) := c_41
                    refine lv_iload_n hx hb dX6_statement_125 rfl (lv_at hl 2 rfl) ?_
                    refine lv_bipush (v := 111) hx hb dX6_statement_126 (by decide) ?_
                    refine lv_icmp_ne (tgt := 196) hx hb dX6_statement_128 (by decide) (fun c_42 => ?_) (fun c_42 => ?_)
                    · have c_42h : ¬ (nI (ca tx L pz)) = (111 : Int32) := c_42
                      refine lv_aload_n hx hb dX6_statement_196 rfl (lv_at hl 3 rfl) ?_
                      refine lv_iload hx hb dX6_statement_197 (lv_at hl 0 rfl) ?_
                      refine lv_iconst (v := 1) hx hb dX6_statement_199 (by decide) ?_
                      refine lv_aload_n hx hb dX6_statement_200 rfl (lv_at hl 3 rfl) ?_
                      refine va_get (D := D) (ci := 6) (v := .ref mr) (C := RX6) (T := TX6) (N := 11) hx hb hts hi6 hown hK hP 1 rfl rfl 1 (by decide) (hts (.fieldLink RX6 13 "SelfCheckingCircuitModel" "read" "[I") (by decide +kernel)) (fun _ h9 => h9) rfl dX6_statement_201 ?_
                      refine lv_iconst (v := 0) hx hb dX6_statement_204 (by decide) ?_
                      refine va_iald hx hb hK hP 0 1 rfl rfl (by unfold vp_in; decide) dX6_statement_205 ?_
                      refine hk_ti (fr 0) (congrArg fr (by decide)) ?_
                      refine hk_ti (nI n) (hM.1.1) ?_
                      refine lv_ishl hx hb dX6_statement_206 ?_
                      refine hk_ti (nI (2 ^ n)) (hn_pw n (by omega)) ?_
                      refine lv_icmp_ge (tgt := 214) hx hb dX6_statement_207 (by decide) (fun c_43 => ?_) (fun c_43 => ?_)
                      · have c_43h : nI (2 ^ n) ≤ r1 := c_43
                        refine lv_iconst (v := 0) hx hb dX6_statement_214 (by decide) ?_
                        refine lv_iconst (v := 1) hx hb dX6_statement_215 (by decide) ?_
                        refine hk_cmv (wr := [(mr, .inl (g.2.1, 147, .inl fr)), (mt, .inl (g.2.1, 200, .inl fx))]) (va_runV (As := [.int 0, .int 1]) (rest := []) ⟨hx, hb, hml, hown, hts⟩ (c6_checked l D g ti _ mo ms mr mk mt mv me km ws L (p1 + 1) rsb1 0 1 ) (cwV 2 hts gX6_statement_X6_checked rfl rfl rfl (by decide +kernel) ⟨Nat.le_of_ble_eq_true rfl, Nat.le_of_ble_eq_true rfl⟩) (hk_inV hE hP hD hS hA 6 rfl rfl [1] (by decide) rfl rfl) rfl rfl hl.1 rfl (lv_room (Nat.le_of_ble_eq_true rfl)) dX6_statement_216 ⟨Nat.zero_le _, Nat.zero_le _⟩) hP hD hS hA [1] [0, 2] rfl rfl (by decide) (by decide) (fun rs7 H locs hck hP hD hS => ?_)
                        try dsimp only at hck
                        have hP : va_P D vwCl [(mr, .inl (g.2.1, 147, .inl fr)), (mt, .inl (g.2.1, 200, .inl fx)), (mo, .inr (6, [.ref ms, .ref mr, .ref mk, .int (nI km), .ref mt, .int (nI L), .int (nI (p1 + 1)), .int rs7, .int (nI ws), .ref mv, .ref me]))] H := hP
                        have hD : va_D A [(mr, .inl (g.2.1, 147, .inl fr)), (mt, .inl (g.2.1, 200, .inl fx)), (mo, .inr (6, [.ref ms, .ref mr, .ref mk, .int (nI km), .ref mt, .int (nI L), .int (nI (p1 + 1)), .int rs7, .int (nI ws), .ref mv, .ref me]))] := hD
                        refine lv_aload_n hx hb dX6_statement_219 rfl (lv_at hl 3 rfl) ?_
                        refine va_get (D := D) (ci := 6) (v := .int rs7) (C := RX6) (T := TX6) (N := 11) hx hb hts hi6 hown hK hP 2 rfl rfl 7 (by decide) (hts (.fieldLink RX6 56 "SelfCheckingCircuitModel" "reason" "I") (by decide +kernel)) (fun _ h9 => h9) rfl dX6_statement_220 ?_
                        refine lv_if_ne (tgt := 247) hx hb dX6_statement_223 (by decide) (fun c_45 => ?_) (fun c_45 => ?_)
                        · have c_45h : ¬ rs7 = (0 : Int32) := c_45
                          have hP9 := hP.sub (ws' := [(mo, .inr (6, [.ref ms, .ref mr, .ref mk, .int (nI km), .ref mt, .int (nI L), .int (nI (p1 + 1)), .int rs7, .int (nI ws), .ref mv, .ref me])), (mt, .inl (g.2.1, 200, .inl fx)), (mr, .inl (g.2.1, 147, .inl fr))]) [2, 1, 0] rfl
                          have hD9 := hD.sub (ws' := [(mo, .inr (6, [.ref ms, .ref mr, .ref mk, .int (nI km), .ref mt, .int (nI L), .int (nI (p1 + 1)), .int rs7, .int (nI ws), .ref mv, .ref me])), (mt, .inl (g.2.1, 200, .inl fx)), (mr, .inl (g.2.1, 147, .inl fr))]) [2, 1, 0] (by decide) rfl
                          exact W.vret hx hb hr (fun tt ht hW => ⟨⟨(rs7, (p1 + 1), fr, ws), rfl, st_wn hX hQ.1 ((mbB hbf (Or.inr (Or.inr (ca_e hX (k := 119) c_34)))).1 c_38) (ca_e hX (k := 119) c_34) hSF hck (Or.inr ⟨rfl, c_43⟩) c_45, by rw [ht]; exact hP9, hD9⟩, hS.F ht⟩) hS.2.2 dX6_statement_247
                        · have c_45h : rs7 = (0 : Int32) := c_45
                          exact absurd rfl (ck_0 hck c_45).2.1
                      · have c_43h : ¬ nI (2 ^ n) ≤ r1 := c_43
                        refine lv_iconst (v := 1) hx hb dX6_statement_210 (by decide) ?_
                        refine lv_goto (tgt := 215) hx hb dX6_statement_211 (by decide) ?_
                        refine lv_iconst (v := 1) hx hb dX6_statement_215 (by decide) ?_
                        refine hk_cmv (wr := [(mr, .inl (g.2.1, 147, .inl fr)), (mt, .inl (g.2.1, 200, .inl fx))]) (va_runV (As := [.int 1, .int 1]) (rest := []) ⟨hx, hb, hml, hown, hts⟩ (c6_checked l D g ti _ mo ms mr mk mt mv me km ws L (p1 + 1) rsb1 1 1 ) (cwV 2 hts gX6_statement_X6_checked rfl rfl rfl (by decide +kernel) ⟨Nat.le_of_ble_eq_true rfl, Nat.le_of_ble_eq_true rfl⟩) (hk_inV hE hP hD hS hA 6 rfl rfl [1] (by decide) rfl rfl) rfl rfl hl.1 rfl (lv_room (Nat.le_of_ble_eq_true rfl)) dX6_statement_216 ⟨Nat.zero_le _, Nat.zero_le _⟩) hP hD hS hA [1] [0, 2] rfl rfl (by decide) (by decide) (fun rs7 H locs hck hP hD hS => ?_)
                        try dsimp only at hck
                        have hP : va_P D vwCl [(mr, .inl (g.2.1, 147, .inl fr)), (mt, .inl (g.2.1, 200, .inl fx)), (mo, .inr (6, [.ref ms, .ref mr, .ref mk, .int (nI km), .ref mt, .int (nI L), .int (nI (p1 + 1)), .int rs7, .int (nI ws), .ref mv, .ref me]))] H := hP
                        have hD : va_D A [(mr, .inl (g.2.1, 147, .inl fr)), (mt, .inl (g.2.1, 200, .inl fx)), (mo, .inr (6, [.ref ms, .ref mr, .ref mk, .int (nI km), .ref mt, .int (nI L), .int (nI (p1 + 1)), .int rs7, .int (nI ws), .ref mv, .ref me]))] := hD
                        refine lv_aload_n hx hb dX6_statement_219 rfl (lv_at hl 3 rfl) ?_
                        refine va_get (D := D) (ci := 6) (v := .int rs7) (C := RX6) (T := TX6) (N := 11) hx hb hts hi6 hown hK hP 2 rfl rfl 7 (by decide) (hts (.fieldLink RX6 56 "SelfCheckingCircuitModel" "reason" "I") (by decide +kernel)) (fun _ h9 => h9) rfl dX6_statement_220 ?_
                        refine lv_if_ne (tgt := 247) hx hb dX6_statement_223 (by decide) (fun c_47 => ?_) (fun c_47 => ?_)
                        · have c_47h : ¬ rs7 = (0 : Int32) := c_47
                          have hP9 := hP.sub (ws' := [(mo, .inr (6, [.ref ms, .ref mr, .ref mk, .int (nI km), .ref mt, .int (nI L), .int (nI (p1 + 1)), .int rs7, .int (nI ws), .ref mv, .ref me])), (mt, .inl (g.2.1, 200, .inl fx)), (mr, .inl (g.2.1, 147, .inl fr))]) [2, 1, 0] rfl
                          have hD9 := hD.sub (ws' := [(mo, .inr (6, [.ref ms, .ref mr, .ref mk, .int (nI km), .ref mt, .int (nI L), .int (nI (p1 + 1)), .int rs7, .int (nI ws), .ref mv, .ref me])), (mt, .inl (g.2.1, 200, .inl fx)), (mr, .inl (g.2.1, 147, .inl fr))]) [2, 1, 0] (by decide) rfl
                          exact W.vret hx hb hr (fun tt ht hW => ⟨⟨(rs7, (p1 + 1), fr, ws), rfl, st_wn hX hQ.1 ((mbB hbf (Or.inr (Or.inr (ca_e hX (k := 119) c_34)))).1 c_38) (ca_e hX (k := 119) c_34) hSF hck (Or.inl ⟨rfl, c_43⟩) c_47, by rw [ht]; exact hP9, hD9⟩, hS.F ht⟩) hS.2.2 dX6_statement_247
                        · have c_47h : rs7 = (0 : Int32) := c_47
                          have hsy := sf_y hSF hck c_47
                          have e9 := hsy.2.1
                          subst e9
                          have hv9 : cV tx L (pz + 1) < 2 ^ n := lt_pw hQ.1 (cV_lt hX (pz + 1)) c_43
                          have hv64 := pw_64 hQ.1 hv9
                          refine lv_aload_n hx hb dX6_statement_226 rfl (lv_at hl 3 rfl) ?_
                          refine va_get (D := D) (ci := 6) (v := .ref mr) (C := RX6) (T := TX6) (N := 11) hx hb hts hi6 hown hK hP 2 rfl rfl 1 (by decide) (hts (.fieldLink RX6 13 "SelfCheckingCircuitModel" "read" "[I") (by decide +kernel)) (fun _ h9 => h9) rfl dX6_statement_227 ?_
                          refine lv_bipush (v := 83) hx hb dX6_statement_230 (by decide) ?_
                          refine lv_iload hx hb dX6_statement_232 (lv_at hl 0 rfl) ?_
                          refine lv_iadd hx hb dX6_statement_234 ?_
                          refine hk_ti (nI (83 + cV tx L (pz + 1))) (nI_add 83 _) ?_
                          refine lv_iconst (v := 1) hx hb dX6_statement_235 (by decide) ?_
                          refine va_iast hx hb hK hP hD hS 0 1 rfl rfl (vp_in_nI (N := 147) (by omega) (by decide)) dX6_statement_236 (fun H locs hP hD hS => ?_)
                          rw [show (nI (83 + cV tx L (pz + 1))).toNatClampNeg = 83 + cV tx L (pz + 1) from nI_clamp (by omega)] at hP hD
                          have hP : va_P D vwCl [(mr, .inl (g.2.1, 147, .inl (upd fr (83 + cV tx L (pz + 1)) 1))), (mt, .inl (g.2.1, 200, .inl fx)), (mo, .inr (6, [.ref ms, .ref mr, .ref mk, .int (nI km), .ref mt, .int (nI L), .int (nI (p1 + 1)), .int rs7, .int (nI ws), .ref mv, .ref me]))] H := hP
                          have hD : va_D A [(mr, .inl (g.2.1, 147, .inl (upd fr (83 + cV tx L (pz + 1)) 1))), (mt, .inl (g.2.1, 200, .inl fx)), (mo, .inr (6, [.ref ms, .ref mr, .ref mk, .int (nI km), .ref mt, .int (nI L), .int (nI (p1 + 1)), .int rs7, .int (nI ws), .ref mv, .ref me]))] := hD
                          refine lv_aload_n hx hb dX6_statement_237 rfl (lv_at hl 3 rfl) ?_
                          refine lv_dup hx hb dX6_statement_238 rfl ?_
                          refine va_get (D := D) (ci := 6) (v := .int (nI ws)) (C := RX6) (T := TX6) (N := 11) hx hb hts hi6 hown hK hP 2 rfl rfl 8 (by decide) (hts (.fieldLink RX6 85 "SelfCheckingCircuitModel" "words" "I") (by decide +kernel)) (fun _ h9 => h9) rfl dX6_statement_239 ?_
                          refine lv_iconst (v := 1) hx hb dX6_statement_242 (by decide) ?_
                          refine lv_iadd hx hb dX6_statement_243 ?_
                          refine hk_ti (nI (ws + 1)) (nI_1 ws) ?_
                          refine va_put (D := D) (ci := 6) (v := .int (nI (ws + 1))) (ty := .int) (C := RX6) (T := TX6) (N := 11) hx hb hts hi6 tyX6 tyX6_ok nmX6 hown hK hP hD hS 2 rfl rfl 8 (by decide) (hts (.fieldLink RX6 85 "SelfCheckingCircuitModel" "words" "I") (by decide +kernel)) (fun _ h9 => h9) rfl (by decide +kernel) rfl rfl (Nat.le_of_ble_eq_true rfl) dX6_statement_244 (fun H locs hP hD hS => ?_)
                          have hP : va_P D vwCl [(mr, .inl (g.2.1, 147, .inl (upd fr (83 + cV tx L (pz + 1)) 1))), (mt, .inl (g.2.1, 200, .inl fx)), (mo, .inr (6, [.ref ms, .ref mr, .ref mk, .int (nI km), .ref mt, .int (nI L), .int (nI (p1 + 1)), .int rs7, .int (nI (ws + 1)), .ref mv, .ref me]))] H := hP
                          have hD : va_D A [(mr, .inl (g.2.1, 147, .inl (upd fr (83 + cV tx L (pz + 1)) 1))), (mt, .inl (g.2.1, 200, .inl fx)), (mo, .inr (6, [.ref ms, .ref mr, .ref mk, .int (nI km), .ref mt, .int (nI L), .int (nI (p1 + 1)), .int rs7, .int (nI (ws + 1)), .ref mv, .ref me]))] := hD
                          have hP9 := hP.sub (ws' := [(mo, .inr (6, [.ref ms, .ref mr, .ref mk, .int (nI km), .ref mt, .int (nI L), .int (nI (p1 + 1)), .int rs7, .int (nI (ws + 1)), .ref mv, .ref me])), (mt, .inl (g.2.1, 200, .inl fx)), (mr, .inl (g.2.1, 147, .inl (upd fr (83 + cV tx L (pz + 1)) 1)))]) [2, 1, 0] rfl
                          have hD9 := hD.sub (ws' := [(mo, .inr (6, [.ref ms, .ref mr, .ref mk, .int (nI km), .ref mt, .int (nI L), .int (nI (p1 + 1)), .int rs7, .int (nI (ws + 1)), .ref mv, .ref me])), (mt, .inl (g.2.1, 200, .inl fx)), (mr, .inl (g.2.1, 147, .inl (upd fr (83 + cV tx L (pz + 1)) 1)))]) [2, 1, 0] (by decide) rfl
                          exact W.vret hx hb hr (fun tt ht hW => ⟨⟨(rs7, (p1 + 1), (upd fr (83 + cV tx L (pz + 1)) 1), (ws + 1)), rfl, st_wy hQ.1 hQ.2.2.2 hQ.2.2.1 ((mbB hbf (Or.inr (Or.inr (ca_e hX (k := 119) c_34)))).1 c_38) (ca_e hX (k := 119) c_34) hsy.1 hsy.2.2.1 hv9 c_47 hM, by rw [ht]; exact hP9, hD9⟩, hS.F ht⟩) hS.2.2 dX6_statement_247
                    · have c_42h : (nI (ca tx L pz)) = (111 : Int32) := c_42
                      exact absurd (c_34.symm.trans c_42) (by decide)
                  · have c_41h : (nI (ca tx L pz)) = (105 : Int32) := c_41
                    exact absurd (c_34.symm.trans c_41) (by decide)
                · have c_39h : (nI (ca tx L pz)) = (103 : Int32) := c_39
                  exact absurd (c_34.symm.trans c_39) (by decide)
              · have c_38h : ¬ (0 : Int32) = bf := c_38
                refine lv_aload_n hx hb dX6_statement_64 rfl (lv_at hl 2 rfl) ?_
                refine lv_iconst (v := 1) hx hb dX6_statement_65 (by decide) ?_
                refine va_put (D := D) (ci := 6) (v := .int 1) (ty := .int) (C := RX6) (T := TX6) (N := 11) hx hb hts hi6 tyX6 tyX6_ok nmX6 hown hK hP hD hS 0 rfl rfl 7 (by decide) (hts (.fieldLink RX6 56 "SelfCheckingCircuitModel" "reason" "I") (by decide +kernel)) (fun _ h9 => h9) rfl (by decide +kernel) rfl rfl (Nat.le_of_ble_eq_true rfl) dX6_statement_66 (fun H locs hP hD hS => ?_)
                have hP : va_P D vwCl [(mo, .inr (6, [.ref ms, .ref mr, .ref mk, .int (nI km), .ref mt, .int (nI L), .int (nI (pz + 1)), .int 1, .int (nI ws), .ref mv, .ref me])), (mt, .inl (g.2.1, 200, .inl fx)), (mr, .inl (g.2.1, 147, .inl fr))] H := hP
                have hD : va_D A [(mo, .inr (6, [.ref ms, .ref mr, .ref mk, .int (nI km), .ref mt, .int (nI L), .int (nI (pz + 1)), .int 1, .int (nI ws), .ref mv, .ref me])), (mt, .inl (g.2.1, 200, .inl fx)), (mr, .inl (g.2.1, 147, .inl fr))] := hD
                have hP9 := hP.sub (ws' := [(mo, .inr (6, [.ref ms, .ref mr, .ref mk, .int (nI km), .ref mt, .int (nI L), .int (nI (pz + 1)), .int 1, .int (nI ws), .ref mv, .ref me])), (mt, .inl (g.2.1, 200, .inl fx)), (mr, .inl (g.2.1, 147, .inl fr))]) [0, 1, 2] rfl
                have hD9 := hD.sub (ws' := [(mo, .inr (6, [.ref ms, .ref mr, .ref mk, .int (nI km), .ref mt, .int (nI L), .int (nI (pz + 1)), .int 1, .int (nI ws), .ref mv, .ref me])), (mt, .inl (g.2.1, 200, .inl fx)), (mr, .inl (g.2.1, 147, .inl fr))]) [0, 1, 2] (by decide) rfl
                exact W.vret hx hb hr (fun tt ht hW => ⟨⟨(1, (pz + 1), fr, ws), rfl, st_1 ((mbB hbf (Or.inr (Or.inr (ca_e hX (k := 119) c_34)))).2 c_38), by rw [ht]; exact hP9, hD9⟩, hS.F ht⟩) hS.2.2 dX6_statement_69
            · have c_37h : (nI (ca tx L pz)) = (105 : Int32) := c_37
              exact absurd (c_34.symm.trans c_37) (by decide)
