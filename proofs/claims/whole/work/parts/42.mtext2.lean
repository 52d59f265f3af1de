set_option maxHeartbeats 4000000 in
set_option maxRecDepth 100000 in
theorem c6_gateHere (l : Launch) (D : va_G) (g : hk_G) (ti : Nat) (sz : Nat) (mo : Nat) (ms : Nat) (mr : Nat) (mk : Nat) (mt : Nat) (mv : Nat) (me : Nat) (km : Nat) (ws : Nat) (L : Nat) (pz : Nat) (fx : Nat → Int32) (tx : Nat → Nat) (fr : Nat → Int32) (n : Nat) (N : Nat) (o : Nat) (ty : Nat → Nat) (pa : Nat → Nat) (pb : Nat → Nat) (vo : Nat → Nat) (nm : Int64) (hX : TX tx L fx) (hp : pz < 301) (hQ : n ≤ 6 ∧ n ≤ N ∧ N ≤ n + 24 ∧ o ≤ 6) (hM : MR n N o 0 0 ty pa pb vo nm fr) : Met l yX6_gateHere wsX6_gateHere ({ frames := 2, cells := 0, slots := 0, locals := 47 }) (va_Pc [.ref mo] (hk_In D g ti [(mo, .inr (6, [.ref ms, .ref mr, .ref mk, .int (nI km), .ref mt, .int (nI L), .int (nI pz), .int 0, .int (nI ws), .ref mv, .ref me])), (mt, .inl (g.2.1, 200, .inl fx)), (mr, .inl (g.2.1, 147, .inl fr))] sz)) (va_Qv (S := Int32 × Nat × (Nat → Int32)) (fun u => GHp (gR tx L pz (n, N, o, ty, pa, pb, vo, nm)) (gq tx L pz) u.1 u.2.1 u.2.2) (fun u => hk_Out D (va_A [(mo, .inr (6, [.ref ms, .ref mr, .ref mk, .int (nI km), .ref mt, .int (nI L), .int (nI pz), .int 0, .int (nI ws), .ref mv, .ref me])), (mt, .inl (g.2.1, 200, .inl fx)), (mr, .inl (g.2.1, 147, .inl fr))] sz) (match u with | (rs', q', f') => [(mo, .inr (6, [.ref ms, .ref mr, .ref mk, .int (nI km), .ref mt, .int (nI L), .int (nI q'), .int rs', .int (nI ws), .ref mv, .ref me])), (mt, .inl (g.2.1, 200, .inl fx)), (mr, .inl (g.2.1, 147, .inl f'))])) (va_A [(mo, .inr (6, [.ref ms, .ref mr, .ref mk, .int (nI km), .ref mt, .int (nI L), .int (nI pz), .int 0, .int (nI ws), .ref mv, .ref me])), (mt, .inl (g.2.1, 200, .inl fx)), (mr, .inl (g.2.1, 147, .inl fr))] sz)) 0 0 (va_A [(mo, .inr (6, [.ref ms, .ref mr, .ref mk, .int (nI km), .ref mt, .int (nI L), .int (nI pz), .int 0, .int (nI ws), .ref mv, .ref me])), (mt, .inl (g.2.1, 200, .inl fx)), (mr, .inl (g.2.1, 147, .inl fr))] sz) := by
  refine Met.ofW (cc := cX6_gateHere) (maxL := 5) (ret := none) (by decide) rfl ?_
  intro p e s m args below meth c s₁ Bd hml hv
  obtain ⟨rfl, hsz, hP, hD0, hE⟩ := hv
  have hx := Bd.exec
  have hb := Bd.bytes
  have hr := Bd.returns
  have hts := atoms_spec (ws := wsX6_gateHere) Bd.pre
  have hown : s.vm.findClass RX6 = some m.cls := findClass_of_methodNamed Bd.named
  have hlocks := Bd.notSynchronized
  have hK := hE.1
  have hi6 : ∀ w ∈ wsX60, w ∈ wsX6_gateHere := fun w h => List.mem_cons_of_mem _ (List.mem_append_right _ h)
  subst hsz
  have hD := hD0.self (sz := s.heap.size)
  generalize hAe : va_A [(mo, .inr (6, [.ref ms, .ref mr, .ref mk, .int (nI km), .ref mt, .int (nI L), .int (nI pz), .int 0, .int (nI ws), .ref mv, .ref me])), (mt, .inl (g.2.1, 200, .inl fx)), (mr, .inl (g.2.1, 147, .inl fr))] s.heap.size = A at hD hE ⊢
  have hA : ∀ q : Nat, s.heap.size ≤ q → A q := fun q h => by rw [← hAe]; exact Or.inr h
  have hS : va_S A s.heap s.heap [] := va_S.rf
  have hl := lv_entry ([.ref mo]) (n := 5) (Nat.le_of_ble_eq_true rfl)
  rw [lg_entry_eq]
  generalize (lg_sl ([.ref mo]) ++ List.replicate (5 - (lg_sl ([.ref mo])).length) Slot.unset).toArray = ls at hl ⊢
  have hl : lv_has ls 5 [(0, .ref mo)] := hl
  refine lv_aload_n hx hb dX6_gateHere_0 rfl (lv_at hl 0 rfl) ?_
  refine hk_cmi (wr := [(mr, .inl (g.2.1, 147, .inl fr))]) (va_runV (As := []) (rest := []) ⟨hx, hb, hml, hown, hts⟩ (c6_number l D g ti _ mo ms mr mk mt mv me km ws L pz 0 fx tx hX (by omega)) (cwV 0 hts gX6_gateHere_X6_number rfl rfl rfl (by decide +kernel) ⟨Nat.le_of_ble_eq_true rfl, Nat.le_of_ble_eq_true rfl⟩) (hk_inV hE hP hD hS hA 6 rfl rfl [0, 1] (by decide) rfl rfl) rfl rfl hl.1 rfl (lv_room (Nat.le_of_ble_eq_true rfl)) dX6_gateHere_1 ⟨Nat.zero_le _, Nat.zero_le _⟩) hP hD hS hA [0, 1] [2] rfl rfl (by decide) (by decide) (fun r1 un1 H locs hn1 hP hD hS => ?_)
  obtain ⟨rsa1, p1⟩ := un1
  try dsimp only at hn1
  have hP : va_P D vwCl [(mr, .inl (g.2.1, 147, .inl fr)), (mo, .inr (6, [.ref ms, .ref mr, .ref mk, .int (nI km), .ref mt, .int (nI L), .int (nI p1), .int rsa1, .int (nI ws), .ref mv, .ref me])), (mt, .inl (g.2.1, 200, .inl fx))] H := hP
  have hD : va_D A [(mr, .inl (g.2.1, 147, .inl fr)), (mo, .inr (6, [.ref ms, .ref mr, .ref mk, .int (nI km), .ref mt, .int (nI L), .int (nI p1), .int rsa1, .int (nI ws), .ref mv, .ref me])), (mt, .inl (g.2.1, 200, .inl fx))] := hD
  refine lv_istore_n (lv' := [(1, .int r1), (0, .ref mo)]) hx hb dX6_gateHere_4 rfl hl (by decide) rfl (fun ls hl => ?_)
  refine lv_aload_n hx hb dX6_gateHere_5 rfl (lv_at hl 1 rfl) ?_
  refine lv_bipush (v := 44) hx hb dX6_gateHere_6 (by decide) ?_
  refine hk_cmv (wr := [(mr, .inl (g.2.1, 147, .inl fr))]) (va_runV (As := [.int 44]) (rest := []) ⟨hx, hb, hml, hown, hts⟩ (c6_sign l D g ti _ mo ms mr mk mt mv me km ws L p1 rsa1 fx tx 44 hX (by have := hn1.2.2; omega)) (cwV 1 hts gX6_gateHere_X6_sign rfl rfl rfl (by decide +kernel) ⟨Nat.le_of_ble_eq_true rfl, Nat.le_of_ble_eq_true rfl⟩) (hk_inV hE hP hD hS hA 6 rfl rfl [1, 2] (by decide) rfl rfl) rfl rfl hl.1 rfl (lv_room (Nat.le_of_ble_eq_true rfl)) dX6_gateHere_8 ⟨Nat.zero_le _, Nat.zero_le _⟩) hP hD hS hA [1, 2] [0] rfl rfl (by decide) (by decide) (fun rsb1 H locs hs1 hP hD hS => ?_)
  try dsimp only at hs1
  have hP : va_P D vwCl [(mr, .inl (g.2.1, 147, .inl fr)), (mo, .inr (6, [.ref ms, .ref mr, .ref mk, .int (nI km), .ref mt, .int (nI L), .int (nI (p1 + 1)), .int rsb1, .int (nI ws), .ref mv, .ref me])), (mt, .inl (g.2.1, 200, .inl fx))] H := hP
  have hD : va_D A [(mr, .inl (g.2.1, 147, .inl fr)), (mo, .inr (6, [.ref ms, .ref mr, .ref mk, .int (nI km), .ref mt, .int (nI L), .int (nI (p1 + 1)), .int rsb1, .int (nI ws), .ref mv, .ref me])), (mt, .inl (g.2.1, 200, .inl fx))] := hD
  refine lv_aload_n hx hb dX6_gateHere_11 rfl (lv_at hl 1 rfl) ?_
  refine hk_cmi (wr := [(mr, .inl (g.2.1, 147, .inl fr))]) (va_runV (As := []) (rest := []) ⟨hx, hb, hml, hown, hts⟩ (c6_number l D g ti _ mo ms mr mk mt mv me km ws L (p1 + 1) rsb1 fx tx hX (by have := hn1.2.2; omega)) (cwV 0 hts gX6_gateHere_X6_number rfl rfl rfl (by decide +kernel) ⟨Nat.le_of_ble_eq_true rfl, Nat.le_of_ble_eq_true rfl⟩) (hk_inV hE hP hD hS hA 6 rfl rfl [1, 2] (by decide) rfl rfl) rfl rfl hl.1 rfl (lv_room (Nat.le_of_ble_eq_true rfl)) dX6_gateHere_12 ⟨Nat.zero_le _, Nat.zero_le _⟩) hP hD hS hA [1, 2] [0] rfl rfl (by decide) (by decide) (fun r2 un2 H locs hn2 hP hD hS => ?_)
  obtain ⟨rsa2, p2⟩ := un2
  try dsimp only at hn2
  have hP : va_P D vwCl [(mr, .inl (g.2.1, 147, .inl fr)), (mo, .inr (6, [.ref ms, .ref mr, .ref mk, .int (nI km), .ref mt, .int (nI L), .int (nI p2), .int rsa2, .int (nI ws), .ref mv, .ref me])), (mt, .inl (g.2.1, 200, .inl fx))] H := hP
  have hD : va_D A [(mr, .inl (g.2.1, 147, .inl fr)), (mo, .inr (6, [.ref ms, .ref mr, .ref mk, .int (nI km), .ref mt, .int (nI L), .int (nI p2), .int rsa2, .int (nI ws), .ref mv, .ref me])), (mt, .inl (g.2.1, 200, .inl fx))] := hD
  refine lv_istore_n (lv' := [(2, .int r2), (1, .int r1), (0, .ref mo)]) hx hb dX6_gateHere_15 rfl hl (by decide) rfl (fun ls hl => ?_)
  refine lv_aload_n hx hb dX6_gateHere_16 rfl (lv_at hl 2 rfl) ?_
  refine va_get (D := D) (ci := 6) (v := .int rsa2) (C := RX6) (T := TX6) (N := 11) hx hb hts hi6 hown hK hP 1 rfl rfl 7 (by decide) (hts (.fieldLink RX6 56 "SelfCheckingCircuitModel" "reason" "I") (by decide +kernel)) (fun _ h9 => h9) rfl dX6_gateHere_17 ?_
  refine lv_if_ne (tgt := 36) hx hb dX6_gateHere_20 (by decide) (fun c_2 => ?_) (fun c_2 => ?_)
  · have c_2h : ¬ rsa2 = (0 : Int32) := c_2
    refine lv_iconst (v := 0) hx hb dX6_gateHere_36 (by decide) ?_
    refine lv_istore_n (lv' := [(3, .int 0), (2, .int r2), (1, .int r1), (0, .ref mo)]) hx hb dX6_gateHere_37 rfl hl (by decide) rfl (fun ls hl => ?_)
    refine lv_iconst (v := 0) hx hb dX6_gateHere_38 (by decide) ?_
    refine lv_istore (lv' := [(4, .int 0), (3, .int 0), (2, .int r2), (1, .int r1), (0, .ref mo)]) hx hb dX6_gateHere_39 hl (by decide) rfl (fun ls hl => ?_)
    refine lv_iload_n hx hb dX6_gateHere_41 rfl (lv_at hl 1 rfl) ?_
    refine lv_if_eq (tgt := 57) hx hb dX6_gateHere_42 (by decide) (fun c_3 => ?_) (fun c_3 => ?_)
    · have c_3h : (0 : Int32) = (0 : Int32) := c_3
      refine lv_aload_n hx hb dX6_gateHere_57 rfl (lv_at hl 4 rfl) ?_
      refine lv_bipush (v := 59) hx hb dX6_gateHere_58 (by decide) ?_
      refine hk_cmv (wr := [(mr, .inl (g.2.1, 147, .inl fr))]) (va_runV (As := [.int 59]) (rest := []) ⟨hx, hb, hml, hown, hts⟩ (c6_sign l D g ti _ mo ms mr mk mt mv me km ws L p2 rsa2 fx tx 59 hX (by have := hn1.2.2; have := hn2.2.2; omega)) (cwV 1 hts gX6_gateHere_X6_sign rfl rfl rfl (by decide +kernel) ⟨Nat.le_of_ble_eq_true rfl, Nat.le_of_ble_eq_true rfl⟩) (hk_inV hE hP hD hS hA 6 rfl rfl [1, 2] (by decide) rfl rfl) rfl rfl hl.1 rfl (lv_room (Nat.le_of_ble_eq_true rfl)) dX6_gateHere_60 ⟨Nat.zero_le _, Nat.zero_le _⟩) hP hD hS hA [1, 2] [0] rfl rfl (by decide) (by decide) (fun rsb2 H locs hs2 hP hD hS => ?_)
      try dsimp only at hs2
      have hP : va_P D vwCl [(mr, .inl (g.2.1, 147, .inl fr)), (mo, .inr (6, [.ref ms, .ref mr, .ref mk, .int (nI km), .ref mt, .int (nI L), .int (nI (p2 + 1)), .int rsb2, .int (nI ws), .ref mv, .ref me])), (mt, .inl (g.2.1, 200, .inl fx))] H := hP
      have hD : va_D A [(mr, .inl (g.2.1, 147, .inl fr)), (mo, .inr (6, [.ref ms, .ref mr, .ref mk, .int (nI km), .ref mt, .int (nI L), .int (nI (p2 + 1)), .int rsb2, .int (nI ws), .ref mv, .ref me])), (mt, .inl (g.2.1, 200, .inl fx))] := hD
      have hMF := gf_A hX hn1 hs1 hn2 hs2 c_2 0
      refine lv_aload_n hx hb dX6_gateHere_63 rfl (lv_at hl 4 rfl) ?_
      refine lv_iload_n hx hb dX6_gateHere_64 rfl (lv_at hl 3 rfl) ?_
      refine lv_iconst (v := 5) hx hb dX6_gateHere_65 (by decide) ?_
      refine lv_icmp_gt (tgt := 116) hx hb dX6_gateHere_66 (by decide) (fun c_5 => ?_) (fun c_5 => ?_)
      · have c_5h : (5 : Int32) < r1 := c_5
        refine lv_iconst (v := 0) hx hb dX6_gateHere_116 (by decide) ?_
        refine lv_aload_n hx hb dX6_gateHere_117 rfl (lv_at hl 4 rfl) ?_
        refine va_get (D := D) (ci := 6) (v := .ref mr) (C := RX6) (T := TX6) (N := 11) hx hb hts hi6 hown hK hP 1 rfl rfl 1 (by decide) (hts (.fieldLink RX6 13 "SelfCheckingCircuitModel" "read" "[I") (by decide +kernel)) (fun _ h9 => h9) rfl dX6_gateHere_118 ?_
        refine lv_iconst (v := 1) hx hb dX6_gateHere_121 (by decide) ?_
        refine va_iald hx hb hK hP 0 1 rfl rfl (by unfold vp_in; decide) dX6_gateHere_122 ?_
        refine hk_ti (fr 1) (congrArg fr (by decide)) ?_
        refine hk_ti (nI (N - n)) (hM.1.2.1) ?_
        refine lv_bipush (v := 24) hx hb dX6_gateHere_123 (by decide) ?_
        refine lv_icmp_ge (tgt := 132) hx hb dX6_gateHere_125 (by decide) (fun c_6 => ?_) (fun c_6 => ?_)
        · have c_6h : (24 : Int32) ≤ nI (N - n) := c_6
          refine lv_iconst (v := 0) hx hb dX6_gateHere_132 (by decide) ?_
          refine hk_cmv (wr := [(mr, .inl (g.2.1, 147, .inl fr)), (mt, .inl (g.2.1, 200, .inl fx))]) (va_runV (As := [.int 0, .int 0]) (rest := []) ⟨hx, hb, hml, hown, hts⟩ (c6_checked l D g ti _ mo ms mr mk mt mv me km ws L (p2 + 1) rsb2 0 0 ) (cwV 2 hts gX6_gateHere_X6_checked rfl rfl rfl (by decide +kernel) ⟨Nat.le_of_ble_eq_true rfl, Nat.le_of_ble_eq_true rfl⟩) (hk_inV hE hP hD hS hA 6 rfl rfl [1] (by decide) rfl rfl) rfl rfl hl.1 rfl (lv_room (Nat.le_of_ble_eq_true rfl)) dX6_gateHere_133 ⟨Nat.zero_le _, Nat.zero_le _⟩) hP hD hS hA [1] [0, 2] rfl rfl (by decide) (by decide) (fun rs7 H locs hck hP hD hS => ?_)
          try dsimp only at hck
          have hP : va_P D vwCl [(mr, .inl (g.2.1, 147, .inl fr)), (mt, .inl (g.2.1, 200, .inl fx)), (mo, .inr (6, [.ref ms, .ref mr, .ref mk, .int (nI km), .ref mt, .int (nI L), .int (nI (p2 + 1)), .int rs7, .int (nI ws), .ref mv, .ref me]))] H := hP
          have hD : va_D A [(mr, .inl (g.2.1, 147, .inl fr)), (mt, .inl (g.2.1, 200, .inl fx)), (mo, .inr (6, [.ref ms, .ref mr, .ref mk, .int (nI km), .ref mt, .int (nI L), .int (nI (p2 + 1)), .int rs7, .int (nI ws), .ref mv, .ref me]))] := hD
          refine lv_aload_n hx hb dX6_gateHere_136 rfl (lv_at hl 4 rfl) ?_
          refine va_get (D := D) (ci := 6) (v := .int rs7) (C := RX6) (T := TX6) (N := 11) hx hb hts hi6 hown hK hP 2 rfl rfl 7 (by decide) (hts (.fieldLink RX6 56 "SelfCheckingCircuitModel" "reason" "I") (by decide +kernel)) (fun _ h9 => h9) rfl dX6_gateHere_137 ?_
          refine lv_if_ne (tgt := 154) hx hb dX6_gateHere_140 (by decide) (fun c_8 => ?_) (fun c_8 => ?_)
          · have c_8h : ¬ rs7 = (0 : Int32) := c_8
            have hP9 := hP.sub (ws' := [(mo, .inr (6, [.ref ms, .ref mr, .ref mk, .int (nI km), .ref mt, .int (nI L), .int (nI (p2 + 1)), .int rs7, .int (nI ws), .ref mv, .ref me])), (mt, .inl (g.2.1, 200, .inl fx)), (mr, .inl (g.2.1, 147, .inl fr))]) [2, 1, 0] rfl
            have hD9 := hD.sub (ws' := [(mo, .inr (6, [.ref ms, .ref mr, .ref mk, .int (nI km), .ref mt, .int (nI L), .int (nI (p2 + 1)), .int rs7, .int (nI ws), .ref mv, .ref me])), (mt, .inl (g.2.1, 200, .inl fx)), (mr, .inl (g.2.1, 147, .inl fr))]) [2, 1, 0] (by decide) rfl
            exact W.vret hx hb hr (fun tt ht hW => ⟨⟨(rs7, (p2 + 1), fr), rfl, gh_n hX (by omega) hQ.2.1 hMF hck (Or.inr ⟨rfl, fun z => z.1 c_5⟩) (Or.inr ⟨rfl, (by have := hk_ge 24 c_6 (hi := by omega); omega)⟩) c_8, by rw [ht]; exact hP9, hD9⟩, hS.F ht⟩) hS.2.2 dX6_gateHere_154
          · have c_8h : rs7 = (0 : Int32) := c_8
            exact absurd rfl (ck_0 hck c_8).2.1
        · have c_6h : ¬ (24 : Int32) ≤ nI (N - n) := c_6
          refine lv_iconst (v := 1) hx hb dX6_gateHere_128 (by decide) ?_
          refine lv_goto (tgt := 133) hx hb dX6_gateHere_129 (by decide) ?_
          refine hk_cmv (wr := [(mr, .inl (g.2.1, 147, .inl fr)), (mt, .inl (g.2.1, 200, .inl fx))]) (va_runV (As := [.int 0, .int 1]) (rest := []) ⟨hx, hb, hml, hown, hts⟩ (c6_checked l D g ti _ mo ms mr mk mt mv me km ws L (p2 + 1) rsb2 0 1 ) (cwV 2 hts gX6_gateHere_X6_checked rfl rfl rfl (by decide +kernel) ⟨Nat.le_of_ble_eq_true rfl, Nat.le_of_ble_eq_true rfl⟩) (hk_inV hE hP hD hS hA 6 rfl rfl [1] (by decide) rfl rfl) rfl rfl hl.1 rfl (lv_room (Nat.le_of_ble_eq_true rfl)) dX6_gateHere_133 ⟨Nat.zero_le _, Nat.zero_le _⟩) hP hD hS hA [1] [0, 2] rfl rfl (by decide) (by decide) (fun rs7 H locs hck hP hD hS => ?_)
          try dsimp only at hck
          have hP : va_P D vwCl [(mr, .inl (g.2.1, 147, .inl fr)), (mt, .inl (g.2.1, 200, .inl fx)), (mo, .inr (6, [.ref ms, .ref mr, .ref mk, .int (nI km), .ref mt, .int (nI L), .int (nI (p2 + 1)), .int rs7, .int (nI ws), .ref mv, .ref me]))] H := hP
          have hD : va_D A [(mr, .inl (g.2.1, 147, .inl fr)), (mt, .inl (g.2.1, 200, .inl fx)), (mo, .inr (6, [.ref ms, .ref mr, .ref mk, .int (nI km), .ref mt, .int (nI L), .int (nI (p2 + 1)), .int rs7, .int (nI ws), .ref mv, .ref me]))] := hD
          refine lv_aload_n hx hb dX6_gateHere_136 rfl (lv_at hl 4 rfl) ?_
          refine va_get (D := D) (ci := 6) (v := .int rs7) (C := RX6) (T := TX6) (N := 11) hx hb hts hi6 hown hK hP 2 rfl rfl 7 (by decide) (hts (.fieldLink RX6 56 "SelfCheckingCircuitModel" "reason" "I") (by decide +kernel)) (fun _ h9 => h9) rfl dX6_gateHere_137 ?_
          refine lv_if_ne (tgt := 154) hx hb dX6_gateHere_140 (by decide) (fun c_10 => ?_) (fun c_10 => ?_)
          · have c_10h : ¬ rs7 = (0 : Int32) := c_10
            have hP9 := hP.sub (ws' := [(mo, .inr (6, [.ref ms, .ref mr, .ref mk, .int (nI km), .ref mt, .int (nI L), .int (nI (p2 + 1)), .int rs7, .int (nI ws), .ref mv, .ref me])), (mt, .inl (g.2.1, 200, .inl fx)), (mr, .inl (g.2.1, 147, .inl fr))]) [2, 1, 0] rfl
            have hD9 := hD.sub (ws' := [(mo, .inr (6, [.ref ms, .ref mr, .ref mk, .int (nI km), .ref mt, .int (nI L), .int (nI (p2 + 1)), .int rs7, .int (nI ws), .ref mv, .ref me])), (mt, .inl (g.2.1, 200, .inl fx)), (mr, .inl (g.2.1, 147, .inl fr))]) [2, 1, 0] (by decide) rfl
            exact W.vret hx hb hr (fun tt ht hW => ⟨⟨(rs7, (p2 + 1), fr), rfl, gh_n hX (by omega) hQ.2.1 hMF hck (Or.inr ⟨rfl, fun z => z.1 c_5⟩) (Or.inl ⟨rfl, (by have := hk_nge 24 c_6 (hi := by omega); omega)⟩) c_10, by rw [ht]; exact hP9, hD9⟩, hS.F ht⟩) hS.2.2 dX6_gateHere_154
          · have c_10h : rs7 = (0 : Int32) := c_10
            exact absurd rfl (ck_0 hck c_10).2.1
      · have c_5h : ¬ (5 : Int32) < r1 := c_5
        refine lv_iload_n hx hb dX6_gateHere_69 rfl (lv_at hl 3 rfl) ?_
        refine lv_iconst (v := 5) hx hb dX6_gateHere_70 (by decide) ?_
        refine lv_icmp_ne (tgt := 78) hx hb dX6_gateHere_71 (by decide) (fun c_11 => ?_) (fun c_11 => ?_)
        · have c_11h : ¬ r1 = (5 : Int32) := c_11
          refine lv_iconst (v := 0) hx hb dX6_gateHere_78 (by decide) ?_
          refine lv_iload_n hx hb dX6_gateHere_79 rfl (lv_at hl 1 rfl) ?_
          refine lv_if_ne (tgt := 87) hx hb dX6_gateHere_80 (by decide) (fun c_12 => ?_) (fun c_12 => ?_)
          · have c_12h : ¬ (0 : Int32) = (0 : Int32) := c_12
            exact absurd c_12 (by decide)
          · have c_12h : (0 : Int32) = (0 : Int32) := c_12
            refine lv_iconst (v := 1) hx hb dX6_gateHere_83 (by decide) ?_
            refine lv_goto (tgt := 88) hx hb dX6_gateHere_84 (by decide) ?_
            refine lv_icmp_ne (tgt := 116) hx hb dX6_gateHere_88 (by decide) (fun c_13 => ?_) (fun c_13 => ?_)
            · have c_13h : ¬ (0 : Int32) = (1 : Int32) := c_13
              refine lv_iconst (v := 0) hx hb dX6_gateHere_116 (by decide) ?_
              refine lv_aload_n hx hb dX6_gateHere_117 rfl (lv_at hl 4 rfl) ?_
              refine va_get (D := D) (ci := 6) (v := .ref mr) (C := RX6) (T := TX6) (N := 11) hx hb hts hi6 hown hK hP 1 rfl rfl 1 (by decide) (hts (.fieldLink RX6 13 "SelfCheckingCircuitModel" "read" "[I") (by decide +kernel)) (fun _ h9 => h9) rfl dX6_gateHere_118 ?_
              refine lv_iconst (v := 1) hx hb dX6_gateHere_121 (by decide) ?_
              refine va_iald hx hb hK hP 0 1 rfl rfl (by unfold vp_in; decide) dX6_gateHere_122 ?_
              refine hk_ti (fr 1) (congrArg fr (by decide)) ?_
              refine hk_ti (nI (N - n)) (hM.1.2.1) ?_
              refine lv_bipush (v := 24) hx hb dX6_gateHere_123 (by decide) ?_
              refine lv_icmp_ge (tgt := 132) hx hb dX6_gateHere_125 (by decide) (fun c_14 => ?_) (fun c_14 => ?_)
              · have c_14h : (24 : Int32) ≤ nI (N - n) := c_14
                refine lv_iconst (v := 0) hx hb dX6_gateHere_132 (by decide) ?_
                refine hk_cmv (wr := [(mr, .inl (g.2.1, 147, .inl fr)), (mt, .inl (g.2.1, 200, .inl fx))]) (va_runV (As := [.int 0, .int 0]) (rest := []) ⟨hx, hb, hml, hown, hts⟩ (c6_checked l D g ti _ mo ms mr mk mt mv me km ws L (p2 + 1) rsb2 0 0 ) (cwV 2 hts gX6_gateHere_X6_checked rfl rfl rfl (by decide +kernel) ⟨Nat.le_of_ble_eq_true rfl, Nat.le_of_ble_eq_true rfl⟩) (hk_inV hE hP hD hS hA 6 rfl rfl [1] (by decide) rfl rfl) rfl rfl hl.1 rfl (lv_room (Nat.le_of_ble_eq_true rfl)) dX6_gateHere_133 ⟨Nat.zero_le _, Nat.zero_le _⟩) hP hD hS hA [1] [0, 2] rfl rfl (by decide) (by decide) (fun rs7 H locs hck hP hD hS => ?_)
                try dsimp only at hck
                have hP : va_P D vwCl [(mr, .inl (g.2.1, 147, .inl fr)), (mt, .inl (g.2.1, 200, .inl fx)), (mo, .inr (6, [.ref ms, .ref mr, .ref mk, .int (nI km), .ref mt, .int (nI L), .int (nI (p2 + 1)), .int rs7, .int (nI ws), .ref mv, .ref me]))] H := hP
                have hD : va_D A [(mr, .inl (g.2.1, 147, .inl fr)), (mt, .inl (g.2.1, 200, .inl fx)), (mo, .inr (6, [.ref ms, .ref mr, .ref mk, .int (nI km), .ref mt, .int (nI L), .int (nI (p2 + 1)), .int rs7, .int (nI ws), .ref mv, .ref me]))] := hD
                refine lv_aload_n hx hb dX6_gateHere_136 rfl (lv_at hl 4 rfl) ?_
                refine va_get (D := D) (ci := 6) (v := .int rs7) (C := RX6) (T := TX6) (N := 11) hx hb hts hi6 hown hK hP 2 rfl rfl 7 (by decide) (hts (.fieldLink RX6 56 "SelfCheckingCircuitModel" "reason" "I") (by decide +kernel)) (fun _ h9 => h9) rfl dX6_gateHere_137 ?_
                refine lv_if_ne (tgt := 154) hx hb dX6_gateHere_140 (by decide) (fun c_16 => ?_) (fun c_16 => ?_)
                · have c_16h : ¬ rs7 = (0 : Int32) := c_16
                  have hP9 := hP.sub (ws' := [(mo, .inr (6, [.ref ms, .ref mr, .ref mk, .int (nI km), .ref mt, .int (nI L), .int (nI (p2 + 1)), .int rs7, .int (nI ws), .ref mv, .ref me])), (mt, .inl (g.2.1, 200, .inl fx)), (mr, .inl (g.2.1, 147, .inl fr))]) [2, 1, 0] rfl
                  have hD9 := hD.sub (ws' := [(mo, .inr (6, [.ref ms, .ref mr, .ref mk, .int (nI km), .ref mt, .int (nI L), .int (nI (p2 + 1)), .int rs7, .int (nI ws), .ref mv, .ref me])), (mt, .inl (g.2.1, 200, .inl fx)), (mr, .inl (g.2.1, 147, .inl fr))]) [2, 1, 0] (by decide) rfl
                  exact W.vret hx hb hr (fun tt ht hW => ⟨⟨(rs7, (p2 + 1), fr), rfl, gh_n hX (by omega) hQ.2.1 hMF hck (Or.inr ⟨rfl, fun z => c_11 (z.2.1.mpr rfl)⟩) (Or.inr ⟨rfl, (by have := hk_ge 24 c_14 (hi := by omega); omega)⟩) c_16, by rw [ht]; exact hP9, hD9⟩, hS.F ht⟩) hS.2.2 dX6_gateHere_154
                · have c_16h : rs7 = (0 : Int32) := c_16
                  exact absurd rfl (ck_0 hck c_16).2.1
              · have c_14h : ¬ (24 : Int32) ≤ nI (N - n) := c_14
                refine lv_iconst (v := 1) hx hb dX6_gateHere_128 (by decide) ?_
                refine lv_goto (tgt := 133) hx hb dX6_gateHere_129 (by decide) ?_
                refine hk_cmv (wr := [(mr, .inl (g.2.1, 147, .inl fr)), (mt, .inl (g.2.1, 200, .inl fx))]) (va_runV (As := [.int 0, .int 1]) (rest := []) ⟨hx, hb, hml, hown, hts⟩ (c6_checked l D g ti _ mo ms mr mk mt mv me km ws L (p2 + 1) rsb2 0 1 ) (cwV 2 hts gX6_gateHere_X6_checked rfl rfl rfl (by decide +kernel) ⟨Nat.le_of_ble_eq_true rfl, Nat.le_of_ble_eq_true rfl⟩) (hk_inV hE hP hD hS hA 6 rfl rfl [1] (by decide) rfl rfl) rfl rfl hl.1 rfl (lv_room (Nat.le_of_ble_eq_true rfl)) dX6_gateHere_133 ⟨Nat.zero_le _, Nat.zero_le _⟩) hP hD hS hA [1] [0, 2] rfl rfl (by decide) (by decide) (fun rs7 H locs hck hP hD hS => ?_)
                try dsimp only at hck
                have hP : va_P D vwCl [(mr, .inl (g.2.1, 147, .inl fr)), (mt, .inl (g.2.1, 200, .inl fx)), (mo, .inr (6, [.ref ms, .ref mr, .ref mk, .int (nI km), .ref mt, .int (nI L), .int (nI (p2 + 1)), .int rs7, .int (nI ws), .ref mv, .ref me]))] H := hP
                have hD : va_D A [(mr, .inl (g.2.1, 147, .inl fr)), (mt, .inl (g.2.1, 200, .inl fx)), (mo, .inr (6, [.ref ms, .ref mr, .ref mk, .int (nI km), .ref mt, .int (nI L), .int (nI (p2 + 1)), .int rs7, .int (nI ws), .ref mv, .ref me]))] := hD
                refine lv_aload_n hx hb dX6_gateHere_136 rfl (lv_at hl 4 rfl) ?_
                refine va_get (D := D) (ci := 6) (v := .int rs7) (C := RX6) (T := TX6) (N := 11) hx hb hts hi6 hown hK hP 2 rfl rfl 7 (by decide) (hts (.fieldLink RX6 56 "SelfCheckingCircuitModel" "reason" "I") (by decide +kernel)) (fun _ h9 => h9) rfl dX6_gateHere_137 ?_
                refine lv_if_ne (tgt := 154) hx hb dX6_gateHere_140 (by decide) (fun c_18 => ?_) (fun c_18 => ?_)
                · have c_18h : ¬ rs7 = (0 : Int32) := c_18
                  have hP9 := hP.sub (ws' := [(mo, .inr (6, [.ref ms, .ref mr, .ref mk, .int (nI km), .ref mt, .int (nI L), .int (nI (p2 + 1)), .int rs7, .int (nI ws), .ref mv, .ref me])), (mt, .inl (g.2.1, 200, .inl fx)), (mr, .inl (g.2.1, 147, .inl fr))]) [2, 1, 0] rfl
                  have hD9 := hD.sub (ws' := [(mo, .inr (6, [.ref ms, .ref mr, .ref mk, .int (nI km), .ref mt, .int (nI L), .int (nI (p2 + 1)), .int rs7, .int (nI ws), .ref mv, .ref me])), (mt, .inl (g.2.1, 200, .inl fx)), (mr, .inl (g.2.1, 147, .inl fr))]) [2, 1, 0] (by decide) rfl
                  exact W.vret hx hb hr (fun tt ht hW => ⟨⟨(rs7, (p2 + 1), fr), rfl, gh_n hX (by omega) hQ.2.1 hMF hck (Or.inr ⟨rfl, fun z => c_11 (z.2.1.mpr rfl)⟩) (Or.inl ⟨rfl, (by have := hk_nge 24 c_14 (hi := by omega); omega)⟩) c_18, by rw [ht]; exact hP9, hD9⟩, hS.F ht⟩) hS.2.2 dX6_gateHere_154
                · have c_18h : rs7 = (0 : Int32) := c_18
                  exact absurd rfl (ck_0 hck c_18).2.1
            · have c_13h : (0 : Int32) = (1 : Int32) := c_13
              exact absurd c_13 (by decide)
        · have c_11h : r1 = (5 : Int32) := c_11
          refine lv_iconst (v := 1) hx hb dX6_gateHere_74 (by decide) ?_
          refine lv_goto (tgt := 79) hx hb dX6_gateHere_75 (by decide) ?_
          refine lv_iload_n hx hb dX6_gateHere_79 rfl (lv_at hl 1 rfl) ?_
          refine lv_if_ne (tgt := 87) hx hb dX6_gateHere_80 (by decide) (fun c_19 => ?_) (fun c_19 => ?_)
          · have c_19h : ¬ (0 : Int32) = (0 : Int32) := c_19
            exact absurd c_19 (by decide)
          · have c_19h : (0 : Int32) = (0 : Int32) := c_19
            refine lv_iconst (v := 1) hx hb dX6_gateHere_83 (by decide) ?_
            refine lv_goto (tgt := 88) hx hb dX6_gateHere_84 (by decide) ?_
            refine lv_icmp_ne (tgt := 116) hx hb dX6_gateHere_88 (by decide) (fun c_20 => ?_) (fun c_20 => ?_)
            · have c_20h : ¬ (1 : Int32) = (1 : Int32) := c_20
              exact absurd c_20 (by decide)
            · have c_20h : (1 : Int32) = (1 : Int32) := c_20
              refine lv_aload_n hx hb dX6_gateHere_91 rfl (lv_at hl 4 rfl) ?_
              refine lv_iload_n hx hb dX6_gateHere_92 rfl (lv_at hl 2 rfl) ?_
              refine hk_csi (va_runV (As := [.int r2]) (rest := [.ref mo]) ⟨hx, hb, hml, hown, hts⟩ (c6_isNodeOf l D g ti mo ms mr mk mt mv me km ws L (p2 + 1) rsb2 fr N r2 (mr_N hM hQ.2.1)) (cwV 1 hts gX6_gateHere_X6_isNodeOf rfl rfl rfl (by decide +kernel) ⟨Nat.le_of_ble_eq_true rfl, Nat.le_of_ble_eq_true rfl⟩) (hk_roV hE hP hS 6 rfl rfl [1, 0] rfl rfl) rfl rfl hl.1 rfl (lv_room (Nat.le_of_ble_eq_true rfl)) dX6_gateHere_93 ⟨Nat.zero_le _, Nat.zero_le _⟩) (fun r_21 hr_22 => ?_)
              subst hr_22
              refine lv_if_eq (tgt := 116) hx hb dX6_gateHere_96 (by decide) (fun c_23 => ?_) (fun c_23 => ?_)
              · have c_23h : (if nI N ≤ r2 then 0 else 1) = (0 : Int32) := c_23
                refine lv_iconst (v := 0) hx hb dX6_gateHere_116 (by decide) ?_
                refine lv_aload_n hx hb dX6_gateHere_117 rfl (lv_at hl 4 rfl) ?_
                refine va_get (D := D) (ci := 6) (v := .ref mr) (C := RX6) (T := TX6) (N := 11) hx hb hts hi6 hown hK hP 1 rfl rfl 1 (by decide) (hts (.fieldLink RX6 13 "SelfCheckingCircuitModel" "read" "[I") (by decide +kernel)) (fun _ h9 => h9) rfl dX6_gateHere_118 ?_
                refine lv_iconst (v := 1) hx hb dX6_gateHere_121 (by decide) ?_
                refine va_iald hx hb hK hP 0 1 rfl rfl (by unfold vp_in; decide) dX6_gateHere_122 ?_
                refine hk_ti (fr 1) (congrArg fr (by decide)) ?_
                refine hk_ti (nI (N - n)) (hM.1.2.1) ?_
                refine lv_bipush (v := 24) hx hb dX6_gateHere_123 (by decide) ?_
                refine lv_icmp_ge (tgt := 132) hx hb dX6_gateHere_125 (by decide) (fun c_24 => ?_) (fun c_24 => ?_)
                · have c_24h : (24 : Int32) ≤ nI (N - n) := c_24
                  refine lv_iconst (v := 0) hx hb dX6_gateHere_132 (by decide) ?_
                  refine hk_cmv (wr := [(mr, .inl (g.2.1, 147, .inl fr)), (mt, .inl (g.2.1, 200, .inl fx))]) (va_runV (As := [.int 0, .int 0]) (rest := []) ⟨hx, hb, hml, hown, hts⟩ (c6_checked l D g ti _ mo ms mr mk mt mv me km ws L (p2 + 1) rsb2 0 0 ) (cwV 2 hts gX6_gateHere_X6_checked rfl rfl rfl (by decide +kernel) ⟨Nat.le_of_ble_eq_true rfl, Nat.le_of_ble_eq_true rfl⟩) (hk_inV hE hP hD hS hA 6 rfl rfl [1] (by decide) rfl rfl) rfl rfl hl.1 rfl (lv_room (Nat.le_of_ble_eq_true rfl)) dX6_gateHere_133 ⟨Nat.zero_le _, Nat.zero_le _⟩) hP hD hS hA [1] [0, 2] rfl rfl (by decide) (by decide) (fun rs7 H locs hck hP hD hS => ?_)
                  try dsimp only at hck
                  have hP : va_P D vwCl [(mr, .inl (g.2.1, 147, .inl fr)), (mt, .inl (g.2.1, 200, .inl fx)), (mo, .inr (6, [.ref ms, .ref mr, .ref mk, .int (nI km), .ref mt, .int (nI L), .int (nI (p2 + 1)), .int rs7, .int (nI ws), .ref mv, .ref me]))] H := hP
                  have hD : va_D A [(mr, .inl (g.2.1, 147, .inl fr)), (mt, .inl (g.2.1, 200, .inl fx)), (mo, .inr (6, [.ref ms, .ref mr, .ref mk, .int (nI km), .ref mt, .int (nI L), .int (nI (p2 + 1)), .int rs7, .int (nI ws), .ref mv, .ref me]))] := hD
                  refine lv_aload_n hx hb dX6_gateHere_136 rfl (lv_at hl 4 rfl) ?_
                  refine va_get (D := D) (ci := 6) (v := .int rs7) (C := RX6) (T := TX6) (N := 11) hx hb hts hi6 hown hK hP 2 rfl rfl 7 (by decide) (hts (.fieldLink RX6 56 "SelfCheckingCircuitModel" "reason" "I") (by decide +kernel)) (fun _ h9 => h9) rfl dX6_gateHere_137 ?_
                  refine lv_if_ne (tgt := 154) hx hb dX6_gateHere_140 (by decide) (fun c_26 => ?_) (fun c_26 => ?_)
                  · have c_26h : ¬ rs7 = (0 : Int32) := c_26
                    have hP9 := hP.sub (ws' := [(mo, .inr (6, [.ref ms, .ref mr, .ref mk, .int (nI km), .ref mt, .int (nI L), .int (nI (p2 + 1)), .int rs7, .int (nI ws), .ref mv, .ref me])), (mt, .inl (g.2.1, 200, .inl fx)), (mr, .inl (g.2.1, 147, .inl fr))]) [2, 1, 0] rfl
                    have hD9 := hD.sub (ws' := [(mo, .inr (6, [.ref ms, .ref mr, .ref mk, .int (nI km), .ref mt, .int (nI L), .int (nI (p2 + 1)), .int rs7, .int (nI ws), .ref mv, .ref me])), (mt, .inl (g.2.1, 200, .inl fx)), (mr, .inl (g.2.1, 147, .inl fr))]) [2, 1, 0] (by decide) rfl
                    exact W.vret hx hb hr (fun tt ht hW => ⟨⟨(rs7, (p2 + 1), fr), rfl, gh_n hX (by omega) hQ.2.1 hMF hck (Or.inr ⟨rfl, fun z => z.2.2.1 (ic_0 c_23)⟩) (Or.inr ⟨rfl, (by have := hk_ge 24 c_24 (hi := by omega); omega)⟩) c_26, by rw [ht]; exact hP9, hD9⟩, hS.F ht⟩) hS.2.2 dX6_gateHere_154
                  · have c_26h : rs7 = (0 : Int32) := c_26
                    exact absurd rfl (ck_0 hck c_26).2.1
                · have c_24h : ¬ (24 : Int32) ≤ nI (N - n) := c_24
                  refine lv_iconst (v := 1) hx hb dX6_gateHere_128 (by decide) ?_
                  refine lv_goto (tgt := 133) hx hb dX6_gateHere_129 (by decide) ?_
                  refine hk_cmv (wr := [(mr, .inl (g.2.1, 147, .inl fr)), (mt, .inl (g.2.1, 200, .inl fx))]) (va_runV (As := [.int 0, .int 1]) (rest := []) ⟨hx, hb, hml, hown, hts⟩ (c6_checked l D g ti _ mo ms mr mk mt mv me km ws L (p2 + 1) rsb2 0 1 ) (cwV 2 hts gX6_gateHere_X6_checked rfl rfl rfl (by decide +kernel) ⟨Nat.le_of_ble_eq_true rfl, Nat.le_of_ble_eq_true rfl⟩) (hk_inV hE hP hD hS hA 6 rfl rfl [1] (by decide) rfl rfl) rfl rfl hl.1 rfl (lv_room (Nat.le_of_ble_eq_true rfl)) dX6_gateHere_133 ⟨Nat.zero_le _, Nat.zero_le _⟩) hP hD hS hA [1] [0, 2] rfl rfl (by decide) (by decide) (fun rs7 H locs hck hP hD hS => ?_)
                  try dsimp only at hck
                  have hP : va_P D vwCl [(mr, .inl (g.2.1, 147, .inl fr)), (mt, .inl (g.2.1, 200, .inl fx)), (mo, .inr (6, [.ref ms, .ref mr, .ref mk, .int (nI km), .ref mt, .int (nI L), .int (nI (p2 + 1)), .int rs7, .int (nI ws), .ref mv, .ref me]))] H := hP
                  have hD : va_D A [(mr, .inl (g.2.1, 147, .inl fr)), (mt, .inl (g.2.1, 200, .inl fx)), (mo, .inr (6, [.ref ms, .ref mr, .ref mk, .int (nI km), .ref mt, .int (nI L), .int (nI (p2 + 1)), .int rs7, .int (nI ws), .ref mv, .ref me]))] := hD
                  refine lv_aload_n hx hb dX6_gateHere_136 rfl (lv_at hl 4 rfl) ?_
                  refine va_get (D := D) (ci := 6) (v := .int rs7) (C := RX6) (T := TX6) (N := 11) hx hb hts hi6 hown hK hP 2 rfl rfl 7 (by decide) (hts (.fieldLink RX6 56 "SelfCheckingCircuitModel" "reason" "I") (by decide +kernel)) (fun _ h9 => h9) rfl dX6_gateHere_137 ?_
                  refine lv_if_ne (tgt := 154) hx hb dX6_gateHere_140 (by decide) (fun c_28 => ?_) (fun c_28 => ?_)
                  · have c_28h : ¬ rs7 = (0 : Int32) := c_28
                    have hP9 := hP.sub (ws' := [(mo, .inr (6, [.ref ms, .ref mr, .ref mk, .int (nI km), .ref mt, .int (nI L), .int (nI (p2 + 1)), .int rs7, .int (nI ws), .ref mv, .ref me])), (mt, .inl (g.2.1, 200, .inl fx)), (mr, .inl (g.2.1, 147, .inl fr))]) [2, 1, 0] rfl
                    have hD9 := hD.sub (ws' := [(mo, .inr (6, [.ref ms, .ref mr, .ref mk, .int (nI km), .ref mt, .int (nI L), .int (nI (p2 + 1)), .int rs7, .int (nI ws), .ref mv, .ref me])), (mt, .inl (g.2.1, 200, .inl fx)), (mr, .inl (g.2.1, 147, .inl fr))]) [2, 1, 0] (by decide) rfl
                    exact W.vret hx hb hr (fun tt ht hW => ⟨⟨(rs7, (p2 + 1), fr), rfl, gh_n hX (by omega) hQ.2.1 hMF hck (Or.inr ⟨rfl, fun z => z.2.2.1 (ic_0 c_23)⟩) (Or.inl ⟨rfl, (by have := hk_nge 24 c_24 (hi := by omega); omega)⟩) c_28, by rw [ht]; exact hP9, hD9⟩, hS.F ht⟩) hS.2.2 dX6_gateHere_154
                  · have c_28h : rs7 = (0 : Int32) := c_28
                    exact absurd rfl (ck_0 hck c_28).2.1
              · have c_23h : ¬ (if nI N ≤ r2 then 0 else 1) = (0 : Int32) := c_23
                refine lv_iload_n hx hb dX6_gateHere_99 rfl (lv_at hl 1 rfl) ?_
                refine lv_if_eq (tgt := 112) hx hb dX6_gateHere_100 (by decide) (fun c_29 => ?_) (fun c_29 => ?_)
                · have c_29h : (0 : Int32) = (0 : Int32) := c_29
                  refine lv_iconst (v := 1) hx hb dX6_gateHere_112 (by decide) ?_
                  refine lv_goto (tgt := 117) hx hb dX6_gateHere_113 (by decide) ?_
                  refine lv_aload_n hx hb dX6_gateHere_117 rfl (lv_at hl 4 rfl) ?_
                  refine va_get (D := D) (ci := 6) (v := .ref mr) (C := RX6) (T := TX6) (N := 11) hx hb hts hi6 hown hK hP 1 rfl rfl 1 (by decide) (hts (.fieldLink RX6 13 "SelfCheckingCircuitModel" "read" "[I") (by decide +kernel)) (fun _ h9 => h9) rfl dX6_gateHere_118 ?_
                  refine lv_iconst (v := 1) hx hb dX6_gateHere_121 (by decide) ?_
                  refine va_iald hx hb hK hP 0 1 rfl rfl (by unfold vp_in; decide) dX6_gateHere_122 ?_
                  refine hk_ti (fr 1) (congrArg fr (by decide)) ?_
                  refine hk_ti (nI (N - n)) (hM.1.2.1) ?_
                  refine lv_bipush (v := 24) hx hb dX6_gateHere_123 (by decide) ?_
                  refine lv_icmp_ge (tgt := 132) hx hb dX6_gateHere_125 (by decide) (fun c_30 => ?_) (fun c_30 => ?_)
                  · have c_30h : (24 : Int32) ≤ nI (N - n) := c_30
                    refine lv_iconst (v := 0) hx hb dX6_gateHere_132 (by decide) ?_
                    refine hk_cmv (wr := [(mr, .inl (g.2.1, 147, .inl fr)), (mt, .inl (g.2.1, 200, .inl fx))]) (va_runV (As := [.int 1, .int 0]) (rest := []) ⟨hx, hb, hml, hown, hts⟩ (c6_checked l D g ti _ mo ms mr mk mt mv me km ws L (p2 + 1) rsb2 1 0 ) (cwV 2 hts gX6_gateHere_X6_checked rfl rfl rfl (by decide +kernel) ⟨Nat.le_of_ble_eq_true rfl, Nat.le_of_ble_eq_true rfl⟩) (hk_inV hE hP hD hS hA 6 rfl rfl [1] (by decide) rfl rfl) rfl rfl hl.1 rfl (lv_room (Nat.le_of_ble_eq_true rfl)) dX6_gateHere_133 ⟨Nat.zero_le _, Nat.zero_le _⟩) hP hD hS hA [1] [0, 2] rfl rfl (by decide) (by decide) (fun rs7 H locs hck hP hD hS => ?_)
                    try dsimp only at hck
                    have hP : va_P D vwCl [(mr, .inl (g.2.1, 147, .inl fr)), (mt, .inl (g.2.1, 200, .inl fx)), (mo, .inr (6, [.ref ms, .ref mr, .ref mk, .int (nI km), .ref mt, .int (nI L), .int (nI (p2 + 1)), .int rs7, .int (nI ws), .ref mv, .ref me]))] H := hP
                    have hD : va_D A [(mr, .inl (g.2.1, 147, .inl fr)), (mt, .inl (g.2.1, 200, .inl fx)), (mo, .inr (6, [.ref ms, .ref mr, .ref mk, .int (nI km), .ref mt, .int (nI L), .int (nI (p2 + 1)), .int rs7, .int (nI ws), .ref mv, .ref me]))] := hD
                    refine lv_aload_n hx hb dX6_gateHere_136 rfl (lv_at hl 4 rfl) ?_
                    refine va_get (D := D) (ci := 6) (v := .int rs7) (C := RX6) (T := TX6) (N := 11) hx hb hts hi6 hown hK hP 2 rfl rfl 7 (by decide) (hts (.fieldLink RX6 56 "SelfCheckingCircuitModel" "reason" "I") (by decide +kernel)) (fun _ h9 => h9) rfl dX6_gateHere_137 ?_
                    refine lv_if_ne (tgt := 154) hx hb dX6_gateHere_140 (by decide) (fun c_32 => ?_) (fun c_32 => ?_)
                    · have c_32h : ¬ rs7 = (0 : Int32) := c_32
                      have hP9 := hP.sub (ws' := [(mo, .inr (6, [.ref ms, .ref mr, .ref mk, .int (nI km), .ref mt, .int (nI L), .int (nI (p2 + 1)), .int rs7, .int (nI ws), .ref mv, .ref me])), (mt, .inl (g.2.1, 200, .inl fx)), (mr, .inl (g.2.1, 147, .inl fr))]) [2, 1, 0] rfl
                      have hD9 := hD.sub (ws' := [(mo, .inr (6, [.ref ms, .ref mr, .ref mk, .int (nI km), .ref mt, .int (nI L), .int (nI (p2 + 1)), .int rs7, .int (nI ws), .ref mv, .ref me])), (mt, .inl (g.2.1, 200, .inl fx)), (mr, .inl (g.2.1, 147, .inl fr))]) [2, 1, 0] (by decide) rfl
                      exact W.vret hx hb hr (fun tt ht hW => ⟨⟨(rs7, (p2 + 1), fr), rfl, gh_n hX (by omega) hQ.2.1 hMF hck (Or.inl ⟨rfl, ⟨c_5, ⟨fun _ => rfl, fun _ => c_11⟩, ic_1 c_23, fun q => (by cases q)⟩⟩) (Or.inr ⟨rfl, (by have := hk_ge 24 c_30 (hi := by omega); omega)⟩) c_32, by rw [ht]; exact hP9, hD9⟩, hS.F ht⟩) hS.2.2 dX6_gateHere_154
                    · have c_32h : rs7 = (0 : Int32) := c_32
                      exact absurd rfl (ck_0 hck c_32).2.2
                  · have c_30h : ¬ (24 : Int32) ≤ nI (N - n) := c_30
                    refine lv_iconst (v := 1) hx hb dX6_gateHere_128 (by decide) ?_
                    refine lv_goto (tgt := 133) hx hb dX6_gateHere_129 (by decide) ?_
                    refine hk_cmv (wr := [(mr, .inl (g.2.1, 147, .inl fr)), (mt, .inl (g.2.1, 200, .inl fx))]) (va_runV (As := [.int 1, .int 1]) (rest := []) ⟨hx, hb, hml, hown, hts⟩ (c6_checked l D g ti _ mo ms mr mk mt mv me km ws L (p2 + 1) rsb2 1 1 ) (cwV 2 hts gX6_gateHere_X6_checked rfl rfl rfl (by decide +kernel) ⟨Nat.le_of_ble_eq_true rfl, Nat.le_of_ble_eq_true rfl⟩) (hk_inV hE hP hD hS hA 6 rfl rfl [1] (by decide) rfl rfl) rfl rfl hl.1 rfl (lv_room (Nat.le_of_ble_eq_true rfl)) dX6_gateHere_133 ⟨Nat.zero_le _, Nat.zero_le _⟩) hP hD hS hA [1] [0, 2] rfl rfl (by decide) (by decide) (fun rs7 H locs hck hP hD hS => ?_)
                    try dsimp only at hck
                    have hP : va_P D vwCl [(mr, .inl (g.2.1, 147, .inl fr)), (mt, .inl (g.2.1, 200, .inl fx)), (mo, .inr (6, [.ref ms, .ref mr, .ref mk, .int (nI km), .ref mt, .int (nI L), .int (nI (p2 + 1)), .int rs7, .int (nI ws), .ref mv, .ref me]))] H := hP
                    have hD : va_D A [(mr, .inl (g.2.1, 147, .inl fr)), (mt, .inl (g.2.1, 200, .inl fx)), (mo, .inr (6, [.ref ms, .ref mr, .ref mk, .int (nI km), .ref mt, .int (nI L), .int (nI (p2 + 1)), .int rs7, .int (nI ws), .ref mv, .ref me]))] := hD
                    refine lv_aload_n hx hb dX6_gateHere_136 rfl (lv_at hl 4 rfl) ?_
                    refine va_get (D := D) (ci := 6) (v := .int rs7) (C := RX6) (T := TX6) (N := 11) hx hb hts hi6 hown hK hP 2 rfl rfl 7 (by decide) (hts (.fieldLink RX6 56 "SelfCheckingCircuitModel" "reason" "I") (by decide +kernel)) (fun _ h9 => h9) rfl dX6_gateHere_137 ?_
                    refine lv_if_ne (tgt := 154) hx hb dX6_gateHere_140 (by decide) (fun c_34 => ?_) (fun c_34 => ?_)
                    · have c_34h : ¬ rs7 = (0 : Int32) := c_34
                      have hP9 := hP.sub (ws' := [(mo, .inr (6, [.ref ms, .ref mr, .ref mk, .int (nI km), .ref mt, .int (nI L), .int (nI (p2 + 1)), .int rs7, .int (nI ws), .ref mv, .ref me])), (mt, .inl (g.2.1, 200, .inl fx)), (mr, .inl (g.2.1, 147, .inl fr))]) [2, 1, 0] rfl
                      have hD9 := hD.sub (ws' := [(mo, .inr (6, [.ref ms, .ref mr, .ref mk, .int (nI km), .ref mt, .int (nI L), .int (nI (p2 + 1)), .int rs7, .int (nI ws), .ref mv, .ref me])), (mt, .inl (g.2.1, 200, .inl fx)), (mr, .inl (g.2.1, 147, .inl fr))]) [2, 1, 0] (by decide) rfl
                      exact W.vret hx hb hr (fun tt ht hW => ⟨⟨(rs7, (p2 + 1), fr), rfl, gh_n hX (by omega) hQ.2.1 hMF hck (Or.inl ⟨rfl, ⟨c_5, ⟨fun _ => rfl, fun _ => c_11⟩, ic_1 c_23, fun q => (by cases q)⟩⟩) (Or.inl ⟨rfl, (by have := hk_nge 24 c_30 (hi := by omega); omega)⟩) c_34, by rw [ht]; exact hP9, hD9⟩, hS.F ht⟩) hS.2.2 dX6_gateHere_154
                    · have c_34h : rs7 = (0 : Int32) := c_34
                      refine lv_aload_n hx hb dX6_gateHere_143 rfl (lv_at hl 4 rfl) ?_
                      refine va_get (D := D) (ci := 6) (v := .ref mr) (C := RX6) (T := TX6) (N := 11) hx hb hts hi6 hown hK hP 2 rfl rfl 1 (by decide) (hts (.fieldLink RX6 13 "SelfCheckingCircuitModel" "read" "[I") (by decide +kernel)) (fun _ h9 => h9) rfl dX6_gateHere_144 ?_
                      refine lv_iload_n hx hb dX6_gateHere_147 rfl (lv_at hl 3 rfl) ?_
                      refine lv_iload_n hx hb dX6_gateHere_148 rfl (lv_at hl 2 rfl) ?_
                      refine lv_iload hx hb dX6_gateHere_149 (lv_at hl 0 rfl) ?_
                      refine hk_cmv (wr := [(mt, .inl (g.2.1, 200, .inl fx)), (mo, .inr (6, [.ref ms, .ref mr, .ref mk, .int (nI km), .ref mt, .int (nI L), .int (nI (p2 + 1)), .int rs7, .int (nI ws), .ref mv, .ref me]))]) (va_runS (As := [.ref mr, .int r1, .int r2, .int 0]) (rest := []) ⟨hx, hb, hml, hown, hts⟩ (c6_gate l D g ti _ mr fr r1 r2 0 (N - n) hM.1.2.1 (by have := (by have := hk_nge 24 c_30 (hi := by omega); omega); omega)) (va_cwS 4 hts gX6_gateHere_X6_gate rfl rfl rfl (by decide +kernel) ⟨Nat.le_of_ble_eq_true rfl, Nat.le_of_ble_eq_true rfl⟩) (hk_inS hE hP hD hS hA [0] (by decide) rfl) rfl rfl hl.1 rfl (lv_room (Nat.le_of_ble_eq_true rfl)) dX6_gateHere_151 ⟨Nat.zero_le _, Nat.zero_le _⟩) hP hD hS hA [0] [1, 2] rfl rfl (by decide) (by decide) (fun _ug H locs hr_36 hP hD hS => ?_)
                      try dsimp only at hr_36
                      have hP : va_P D vwCl [(mt, .inl (g.2.1, 200, .inl fx)), (mo, .inr (6, [.ref ms, .ref mr, .ref mk, .int (nI km), .ref mt, .int (nI L), .int (nI (p2 + 1)), .int rs7, .int (nI ws), .ref mv, .ref me])), (mr, .inl (g.2.1, 147, .inl (gU fr (N - n) r1 r2 0)))] H := hP
                      have hD : va_D A [(mt, .inl (g.2.1, 200, .inl fx)), (mo, .inr (6, [.ref ms, .ref mr, .ref mk, .int (nI km), .ref mt, .int (nI L), .int (nI (p2 + 1)), .int rs7, .int (nI ws), .ref mv, .ref me])), (mr, .inl (g.2.1, 147, .inl (gU fr (N - n) r1 r2 0)))] := hD
                      have hP9 := hP.sub (ws' := [(mo, .inr (6, [.ref ms, .ref mr, .ref mk, .int (nI km), .ref mt, .int (nI L), .int (nI (p2 + 1)), .int rs7, .int (nI ws), .ref mv, .ref me])), (mt, .inl (g.2.1, 200, .inl fx)), (mr, .inl (g.2.1, 147, .inl (gU fr (N - n) r1 r2 0)))]) [1, 0, 2] rfl
                      have hD9 := hD.sub (ws' := [(mo, .inr (6, [.ref ms, .ref mr, .ref mk, .int (nI km), .ref mt, .int (nI L), .int (nI (p2 + 1)), .int rs7, .int (nI ws), .ref mv, .ref me])), (mt, .inl (g.2.1, 200, .inl fx)), (mr, .inl (g.2.1, 147, .inl (gU fr (N - n) r1 r2 0)))]) [1, 0, 2] (by decide) rfl
                      exact W.vret hx hb hr (fun tt ht hW => ⟨⟨(rs7, (p2 + 1), (gU fr (N - n) r1 r2 0)), rfl, gh_y hX (by omega) hQ.2.1 hQ.2.2.2 hM hMF hck (⟨c_5, ⟨fun _ => rfl, fun _ => c_11⟩, ic_1 c_23, fun q => (by cases q)⟩) (by have := hk_nge 24 c_30 (hi := by omega); omega) c_34, by rw [ht]; exact hP9, hD9⟩, hS.F ht⟩) hS.2.2 dX6_gateHere_154
                · have c_29h : ¬ (0 : Int32) = (0 : Int32) := c_29
                  exact absurd c_29 (by decide)
    · have c_3h : ¬ (0 : Int32) = (0 : Int32) := c_3
      exact absurd c_3 (by decide)
  · have c_2h : rsa2 = (0 : Int32) := c_2
    refine lv_aload_n hx hb dX6_gateHere_23 rfl (lv_at hl 2 rfl) ?_
    refine hk_csi (va_runV (As := []) (rest := []) ⟨hx, hb, hml, hown, hts⟩ (c6_here l D g ti mo ms mr mk mt mv me km ws L p2 rsa2 fx tx hX (by have := hn1.2.2; have := hn2.2.2; omega)) (cwV 0 hts gX6_gateHere_X6_here rfl rfl rfl (by decide +kernel) ⟨Nat.le_of_ble_eq_true rfl, Nat.le_of_ble_eq_true rfl⟩) (hk_roV hE hP hS 6 rfl rfl [1, 2] rfl rfl) rfl rfl hl.1 rfl (lv_room (Nat.le_of_ble_eq_true rfl)) dX6_gateHere_24 ⟨Nat.zero_le _, Nat.zero_le _⟩) (fun r_37 hr_38 => ?_)
    subst hr_38
    refine lv_bipush (v := 44) hx hb dX6_gateHere_27 (by decide) ?_
    refine lv_icmp_ne (tgt := 36) hx hb dX6_gateHere_29 (by decide) (fun c_39 => ?_) (fun c_39 => ?_)
    · have c_39h : ¬ (nI (ca tx L p2)) = (44 : Int32) := c_39
      refine lv_iconst (v := 0) hx hb dX6_gateHere_36 (by decide) ?_
      refine lv_istore_n (lv' := [(3, .int 0), (2, .int r2), (1, .int r1), (0, .ref mo)]) hx hb dX6_gateHere_37 rfl hl (by decide) rfl (fun ls hl => ?_)
      refine lv_iconst (v := 0) hx hb dX6_gateHere_38 (by decide) ?_
      refine lv_istore (lv' := [(4, .int 0), (3, .int 0), (2, .int r2), (1, .int r1), (0, .ref mo)]) hx hb dX6_gateHere_39 hl (by decide) rfl (fun ls hl => ?_)
      refine lv_iload_n hx hb dX6_gateHere_41 rfl (lv_at hl 1 rfl) ?_
      refine lv_if_eq (tgt := 57) hx hb dX6_gateHere_42 (by decide) (fun c_40 => ?_) (fun c_40 => ?_)
      · have c_40h : (0 : Int32) = (0 : Int32) := c_40
        refine lv_aload_n hx hb dX6_gateHere_57 rfl (lv_at hl 4 rfl) ?_
        refine lv_bipush (v := 59) hx hb dX6_gateHere_58 (by decide) ?_
        refine hk_cmv (wr := [(mr, .inl (g.2.1, 147, .inl fr))]) (va_runV (As := [.int 59]) (rest := []) ⟨hx, hb, hml, hown, hts⟩ (c6_sign l D g ti _ mo ms mr mk mt mv me km ws L p2 rsa2 fx tx 59 hX (by have := hn1.2.2; have := hn2.2.2; omega)) (cwV 1 hts gX6_gateHere_X6_sign rfl rfl rfl (by decide +kernel) ⟨Nat.le_of_ble_eq_true rfl, Nat.le_of_ble_eq_true rfl⟩) (hk_inV hE hP hD hS hA 6 rfl rfl [1, 2] (by decide) rfl rfl) rfl rfl hl.1 rfl (lv_room (Nat.le_of_ble_eq_true rfl)) dX6_gateHere_60 ⟨Nat.zero_le _, Nat.zero_le _⟩) hP hD hS hA [1, 2] [0] rfl rfl (by decide) (by decide) (fun rsb2 H locs hs2 hP hD hS => ?_)
        try dsimp only at hs2
        have hP : va_P D vwCl [(mr, .inl (g.2.1, 147, .inl fr)), (mo, .inr (6, [.ref ms, .ref mr, .ref mk, .int (nI km), .ref mt, .int (nI L), .int (nI (p2 + 1)), .int rsb2, .int (nI ws), .ref mv, .ref me])), (mt, .inl (g.2.1, 200, .inl fx))] H := hP
        have hD : va_D A [(mr, .inl (g.2.1, 147, .inl fr)), (mo, .inr (6, [.ref ms, .ref mr, .ref mk, .int (nI km), .ref mt, .int (nI L), .int (nI (p2 + 1)), .int rsb2, .int (nI ws), .ref mv, .ref me])), (mt, .inl (g.2.1, 200, .inl fx))] := hD
        have hMF := gf_B hX hn1 hs1 hn2 hs2 c_2 c_39 0
        refine lv_aload_n hx hb dX6_gateHere_63 rfl (lv_at hl 4 rfl) ?_
        refine lv_iload_n hx hb dX6_gateHere_64 rfl (lv_at hl 3 rfl) ?_
        refine lv_iconst (v := 5) hx hb dX6_gateHere_65 (by decide) ?_
        refine lv_icmp_gt (tgt := 116) hx hb dX6_gateHere_66 (by decide) (fun c_42 => ?_) (fun c_42 => ?_)
        · have c_42h : (5 : Int32) < r1 := c_42
          refine lv_iconst (v := 0) hx hb dX6_gateHere_116 (by decide) ?_
          refine lv_aload_n hx hb dX6_gateHere_117 rfl (lv_at hl 4 rfl) ?_
          refine va_get (D := D) (ci := 6) (v := .ref mr) (C := RX6) (T := TX6) (N := 11) hx hb hts hi6 hown hK hP 1 rfl rfl 1 (by decide) (hts (.fieldLink RX6 13 "SelfCheckingCircuitModel" "read" "[I") (by decide +kernel)) (fun _ h9 => h9) rfl dX6_gateHere_118 ?_
          refine lv_iconst (v := 1) hx hb dX6_gateHere_121 (by decide) ?_
          refine va_iald hx hb hK hP 0 1 rfl rfl (by unfold vp_in; decide) dX6_gateHere_122 ?_
          refine hk_ti (fr 1) (congrArg fr (by decide)) ?_
          refine hk_ti (nI (N - n)) (hM.1.2.1) ?_
          refine lv_bipush (v := 24) hx hb dX6_gateHere_123 (by decide) ?_
          refine lv_icmp_ge (tgt := 132) hx hb dX6_gateHere_125 (by decide) (fun c_43 => ?_) (fun c_43 => ?_)
          · have c_43h : (24 : Int32) ≤ nI (N - n) := c_43
            refine lv_iconst (v := 0) hx hb dX6_gateHere_132 (by decide) ?_
            refine hk_cmv (wr := [(mr, .inl (g.2.1, 147, .inl fr)), (mt, .inl (g.2.1, 200, .inl fx))]) (va_runV (As := [.int 0, .int 0]) (rest := []) ⟨hx, hb, hml, hown, hts⟩ (c6_checked l D g ti _ mo ms mr mk mt mv me km ws L (p2 + 1) rsb2 0 0 ) (cwV 2 hts gX6_gateHere_X6_checked rfl rfl rfl (by decide +kernel) ⟨Nat.le_of_ble_eq_true rfl, Nat.le_of_ble_eq_true rfl⟩) (hk_inV hE hP hD hS hA 6 rfl rfl [1] (by decide) rfl rfl) rfl rfl hl.1 rfl (lv_room (Nat.le_of_ble_eq_true rfl)) dX6_gateHere_133 ⟨Nat.zero_le _, Nat.zero_le _⟩) hP hD hS hA [1] [0, 2] rfl rfl (by decide) (by decide) (fun rs7 H locs hck hP hD hS => ?_)
            try dsimp only at hck
            have hP : va_P D vwCl [(mr, .inl (g.2.1, 147, .inl fr)), (mt, .inl (g.2.1, 200, .inl fx)), (mo, .inr (6, [.ref ms, .ref mr, .ref mk, .int (nI km), .ref mt, .int (nI L), .int (nI (p2 + 1)), .int rs7, .int (nI ws), .ref mv, .ref me]))] H := hP
            have hD : va_D A [(mr, .inl (g.2.1, 147, .inl fr)), (mt, .inl (g.2.1, 200, .inl fx)), (mo, .inr (6, [.ref ms, .ref mr, .ref mk, .int (nI km), .ref mt, .int (nI L), .int (nI (p2 + 1)), .int rs7, .int (nI ws), .ref mv, .ref me]))] := hD
            refine lv_aload_n hx hb dX6_gateHere_136 rfl (lv_at hl 4 rfl) ?_
            refine va_get (D := D) (ci := 6) (v := .int rs7) (C := RX6) (T := TX6) (N := 11) hx hb hts hi6 hown hK hP 2 rfl rfl 7 (by decide) (hts (.fieldLink RX6 56 "SelfCheckingCircuitModel" "reason" "I") (by decide +kernel)) (fun _ h9 => h9) rfl dX6_gateHere_137 ?_
            refine lv_if_ne (tgt := 154) hx hb dX6_gateHere_140 (by decide) (fun c_45 => ?_) (fun c_45 => ?_)
            · have c_45h : ¬ rs7 = (0 : Int32) := c_45
              have hP9 := hP.sub (ws' := [(mo, .inr (6, [.ref ms, .ref mr, .ref mk, .int (nI km), .ref mt, .int (nI L), .int (nI (p2 + 1)), .int rs7, .int (nI ws), .ref mv, .ref me])), (mt, .inl (g.2.1, 200, .inl fx)), (mr, .inl (g.2.1, 147, .inl fr))]) [2, 1, 0] rfl
              have hD9 := hD.sub (ws' := [(mo, .inr (6, [.ref ms, .ref mr, .ref mk, .int (nI km), .ref mt, .int (nI L), .int (nI (p2 + 1)), .int rs7, .int (nI ws), .ref mv, .ref me])), (mt, .inl (g.2.1, 200, .inl fx)), (mr, .inl (g.2.1, 147, .inl fr))]) [2, 1, 0] (by decide) rfl
              exact W.vret hx hb hr (fun tt ht hW => ⟨⟨(rs7, (p2 + 1), fr), rfl, gh_n hX (by omega) hQ.2.1 hMF hck (Or.inr ⟨rfl, fun z => z.1 c_42⟩) (Or.inr ⟨rfl, (by have := hk_ge 24 c_43 (hi := by omega); omega)⟩) c_45, by rw [ht]; exact hP9, hD9⟩, hS.F ht⟩) hS.2.2 dX6_gateHere_154
            · have c_45h : rs7 = (0 : Int32) := c_45
              exact absurd rfl (ck_0 hck c_45).2.1
          · have c_43h : ¬ (24 : Int32) ≤ nI (N - n) := c_43
            refine lv_iconst (v := 1) hx hb dX6_gateHere_128 (by decide) ?_
            refine lv_goto (tgt := 133) hx hb dX6_gateHere_129 (by decide) ?_
            refine hk_cmv (wr := [(mr, .inl (g.2.1, 147, .inl fr)), (mt, .inl (g.2.1, 200, .inl fx))]) (va_runV (As := [.int 0, .int 1]) (rest := []) ⟨hx, hb, hml, hown, hts⟩ (c6_checked l D g ti _ mo ms mr mk mt mv me km ws L (p2 + 1) rsb2 0 1 ) (cwV 2 hts gX6_gateHere_X6_checked rfl rfl rfl (by decide +kernel) ⟨Nat.le_of_ble_eq_true rfl, Nat.le_of_ble_eq_true rfl⟩) (hk_inV hE hP hD hS hA 6 rfl rfl [1] (by decide) rfl rfl) rfl rfl hl.1 rfl (lv_room (Nat.le_of_ble_eq_true rfl)) dX6_gateHere_133 ⟨Nat.zero_le _, Nat.zero_le _⟩) hP hD hS hA [1] [0, 2] rfl rfl (by decide) (by decide) (fun rs7 H locs hck hP hD hS => ?_)
            try dsimp only at hck
            have hP : va_P D vwCl [(mr, .inl (g.2.1, 147, .inl fr)), (mt, .inl (g.2.1, 200, .inl fx)), (mo, .inr (6, [.ref ms, .ref mr, .ref mk, .int (nI km), .ref mt, .int (nI L), .int (nI (p2 + 1)), .int rs7, .int (nI ws), .ref mv, .ref me]))] H := hP
            have hD : va_D A [(mr, .inl (g.2.1, 147, .inl fr)), (mt, .inl (g.2.1, 200, .inl fx)), (mo, .inr (6, [.ref ms, .ref mr, .ref mk, .int (nI km), .ref mt, .int (nI L), .int (nI (p2 + 1)), .int rs7, .int (nI ws), .ref mv, .ref me]))] := hD
            refine lv_aload_n hx hb dX6_gateHere_136 rfl (lv_at hl 4 rfl) ?_
            refine va_get (D := D) (ci := 6) (v := .int rs7) (C := RX6) (T := TX6) (N := 11) hx hb hts hi6 hown hK hP 2 rfl rfl 7 (by decide) (hts (.fieldLink RX6 56 "SelfCheckingCircuitModel" "reason" "I") (by decide +kernel)) (fun _ h9 => h9) rfl dX6_gateHere_137 ?_
            refine lv_if_ne (tgt := 154) hx hb dX6_gateHere_140 (by decide) (fun c_47 => ?_) (fun c_47 => ?_)
            · have c_47h : ¬ rs7 = (0 : Int32) := c_47
              have hP9 := hP.sub (ws' := [(mo, .inr (6, [.ref ms, .ref mr, .ref mk, .int (nI km), .ref mt, .int (nI L), .int (nI (p2 + 1)), .int rs7, .int (nI ws), .ref mv, .ref me])), (mt, .inl (g.2.1, 200, .inl fx)), (mr, .inl (g.2.1, 147, .inl fr))]) [2, 1, 0] rfl
              have hD9 := hD.sub (ws' := [(mo, .inr (6, [.ref ms, .ref mr, .ref mk, .int (nI km), .ref mt, .int (nI L), .int (nI (p2 + 1)), .int rs7, .int (nI ws), .ref mv, .ref me])), (mt, .inl (g.2.1, 200, .inl fx)), (mr, .inl (g.2.1, 147, .inl fr))]) [2, 1, 0] (by decide) rfl
              exact W.vret hx hb hr (fun tt ht hW => ⟨⟨(rs7, (p2 + 1), fr), rfl, gh_n hX (by omega) hQ.2.1 hMF hck (Or.inr ⟨rfl, fun z => z.1 c_42⟩) (Or.inl ⟨rfl, (by have := hk_nge 24 c_43 (hi := by omega); omega)⟩) c_47, by rw [ht]; exact hP9, hD9⟩, hS.F ht⟩) hS.2.2 dX6_gateHere_154
            · have c_47h : rs7 = (0 : Int32) := c_47
              exact absurd rfl (ck_0 hck c_47).2.1
        · have c_42h : ¬ (5 : Int32) < r1 := c_42
          refine lv_iload_n hx hb dX6_gateHere_69 rfl (lv_at hl 3 rfl) ?_
          refine lv_iconst (v := 5) hx hb dX6_gateHere_70 (by decide) ?_
          refine lv_icmp_ne (tgt := 78) hx hb dX6_gateHere_71 (by decide) (fun c_48 => ?_) (fun c_48 => ?_)
          · have c_48h : ¬ r1 = (5 : Int32) := c_48
            refine lv_iconst (v := 0) hx hb dX6_gateHere_78 (by decide) ?_
            refine lv_iload_n hx hb dX6_gateHere_79 rfl (lv_at hl 1 rfl) ?_
            refine lv_if_ne (tgt := 87) hx hb dX6_gateHere_80 (by decide) (fun c_49 => ?_) (fun c_49 => ?_)
            · have c_49h : ¬ (0 : Int32) = (0 : Int32) := c_49
              exact absurd c_49 (by decide)
            · have c_49h : (0 : Int32) = (0 : Int32) := c_49
              refine lv_iconst (v := 1) hx hb dX6_gateHere_83 (by decide) ?_
              refine lv_goto (tgt := 88) hx hb dX6_gateHere_84 (by decide) ?_
              refine lv_icmp_ne (tgt := 116) hx hb dX6_gateHere_88 (by decide) (fun c_50 => ?_) (fun c_50 => ?_)
              · have c_50h : ¬ (0 : Int32) = (1 : Int32) := c_50
                refine lv_iconst (v := 0) hx hb dX6_gateHere_116 (by decide) ?_
                refine lv_aload_n hx hb dX6_gateHere_117 rfl (lv_at hl 4 rfl) ?_
                refine va_get (D := D) (ci := 6) (v := .ref mr) (C := RX6) (T := TX6) (N := 11) hx hb hts hi6 hown hK hP 1 rfl rfl 1 (by decide) (hts (.fieldLink RX6 13 "SelfCheckingCircuitModel" "read" "[I") (by decide +kernel)) (fun _ h9 => h9) rfl dX6_gateHere_118 ?_
                refine lv_iconst (v := 1) hx hb dX6_gateHere_121 (by decide) ?_
                refine va_iald hx hb hK hP 0 1 rfl rfl (by unfold vp_in; decide) dX6_gateHere_122 ?_
                refine hk_ti (fr 1) (congrArg fr (by decide)) ?_
                refine hk_ti (nI (N - n)) (hM.1.2.1) ?_
                refine lv_bipush (v := 24) hx hb dX6_gateHere_123 (by decide) ?_
                refine lv_icmp_ge (tgt := 132) hx hb dX6_gateHere_125 (by decide) (fun c_51 => ?_) (fun c_51 => ?_)
                · have c_51h : (24 : Int32) ≤ nI (N - n) := c_51
                  refine lv_iconst (v := 0) hx hb dX6_gateHere_132 (by decide) ?_
                  refine hk_cmv (wr := [(mr, .inl (g.2.1, 147, .inl fr)), (mt, .inl (g.2.1, 200, .inl fx))]) (va_runV (As := [.int 0, .int 0]) (rest := []) ⟨hx, hb, hml, hown, hts⟩ (c6_checked l D g ti _ mo ms mr mk mt mv me km ws L (p2 + 1) rsb2 0 0 ) (cwV 2 hts gX6_gateHere_X6_checked rfl rfl rfl (by decide +kernel) ⟨Nat.le_of_ble_eq_true rfl, Nat.le_of_ble_eq_true rfl⟩) (hk_inV hE hP hD hS hA 6 rfl rfl [1] (by decide) rfl rfl) rfl rfl hl.1 rfl (lv_room (Nat.le_of_ble_eq_true rfl)) dX6_gateHere_133 ⟨Nat.zero_le _, Nat.zero_le _⟩) hP hD hS hA [1] [0, 2] rfl rfl (by decide) (by decide) (fun rs7 H locs hck hP hD hS => ?_)
                  try dsimp only at hck
                  have hP : va_P D vwCl [(mr, .inl (g.2.1, 147, .inl fr)), (mt, .inl (g.2.1, 200, .inl fx)), (mo, .inr (6, [.ref ms, .ref mr, .ref mk, .int (nI km), .ref mt, .int (nI L), .int (nI (p2 + 1)), .int rs7, .int (nI ws), .ref mv, .ref me]))] H := hP
                  have hD : va_D A [(mr, .inl (g.2.1, 147, .inl fr)), (mt, .inl (g.2.1, 200, .inl fx)), (mo, .inr (6, [.ref ms, .ref mr, .ref mk, .int (nI km), .ref mt, .int (nI L), .int (nI (p2 + 1)), .int rs7, .int (nI ws), .ref mv, .ref me]))] := hD
                  refine lv_aload_n hx hb dX6_gateHere_136 rfl (lv_at hl 4 rfl) ?_
                  refine va_get (D := D) (ci := 6) (v := .int rs7) (C := RX6) (T := TX6) (N := 11) hx hb hts hi6 hown hK hP 2 rfl rfl 7 (by decide) (hts (.fieldLink RX6 56 "SelfCheckingCircuitModel" "reason" "I") (by decide +kernel)) (fun _ h9 => h9) rfl dX6_gateHere_137 ?_
                  refine lv_if_ne (tgt := 154) hx hb dX6_gateHere_140 (by decide) (fun c_53 => ?_) (fun c_53 => ?_)
                  · have c_53h : ¬ rs7 = (0 : Int32) := c_53
                    have hP9 := hP.sub (ws' := [(mo, .inr (6, [.ref ms, .ref mr, .ref mk, .int (nI km), .ref mt, .int (nI L), .int (nI (p2 + 1)), .int rs7, .int (nI ws), .ref mv, .ref me])), (mt, .inl (g.2.1, 200, .inl fx)), (mr, .inl (g.2.1, 147, .inl fr))]) [2, 1, 0] rfl
                    have hD9 := hD.sub (ws' := [(mo, .inr (6, [.ref ms, .ref mr, .ref mk, .int (nI km), .ref mt, .int (nI L), .int (nI (p2 + 1)), .int rs7, .int (nI ws), .ref mv, .ref me])), (mt, .inl (g.2.1, 200, .inl fx)), (mr, .inl (g.2.1, 147, .inl fr))]) [2, 1, 0] (by decide) rfl
                    exact W.vret hx hb hr (fun tt ht hW => ⟨⟨(rs7, (p2 + 1), fr), rfl, gh_n hX (by omega) hQ.2.1 hMF hck (Or.inr ⟨rfl, fun z => c_48 (z.2.1.mpr rfl)⟩) (Or.inr ⟨rfl, (by have := hk_ge 24 c_51 (hi := by omega); omega)⟩) c_53, by rw [ht]; exact hP9, hD9⟩, hS.F ht⟩) hS.2.2 dX6_gateHere_154
                  · have c_53h : rs7 = (0 : Int32) := c_53
                    exact absurd rfl (ck_0 hck c_53).2.1
                · have c_51h : ¬ (24 : Int32) ≤ nI (N - n) := c_51
                  refine lv_iconst (v := 1) hx hb dX6_gateHere_128 (by decide) ?_
                  refine lv_goto (tgt := 133) hx hb dX6_gateHere_129 (by decide) ?_
                  refine hk_cmv (wr := [(mr, .inl (g.2.1, 147, .inl fr)), (mt, .inl (g.2.1, 200, .inl fx))]) (va_runV (As := [.int 0, .int 1]) (rest := []) ⟨hx, hb, hml, hown, hts⟩ (c6_checked l D g ti _ mo ms mr mk mt mv me km ws L (p2 + 1) rsb2 0 1 ) (cwV 2 hts gX6_gateHere_X6_checked rfl rfl rfl (by decide +kernel) ⟨Nat.le_of_ble_eq_true rfl, Nat.le_of_ble_eq_true rfl⟩) (hk_inV hE hP hD hS hA 6 rfl rfl [1] (by decide) rfl rfl) rfl rfl hl.1 rfl (lv_room (Nat.le_of_ble_eq_true rfl)) dX6_gateHere_133 ⟨Nat.zero_le _, Nat.zero_le _⟩) hP hD hS hA [1] [0, 2] rfl rfl (by decide) (by decide) (fun rs7 H locs hck hP hD hS => ?_)
                  try dsimp only at hck
                  have hP : va_P D vwCl [(mr, .inl (g.2.1, 147, .inl fr)), (mt, .inl (g.2.1, 200, .inl fx)), (mo, .inr (6, [.ref ms, .ref mr, .ref mk, .int (nI km), .ref mt, .int (nI L), .int (nI (p2 + 1)), .int rs7, .int (nI ws), .ref mv, .ref me]))] H := hP
                  have hD : va_D A [(mr, .inl (g.2.1, 147, .inl fr)), (mt, .inl (g.2.1, 200, .inl fx)), (mo, .inr (6, [.ref ms, .ref mr, .ref mk, .int (nI km), .ref mt, .int (nI L), .int (nI (p2 + 1)), .int rs7, .int (nI ws), .ref mv, .ref me]))] := hD
                  refine lv_aload_n hx hb dX6_gateHere_136 rfl (lv_at hl 4 rfl) ?_
                  refine va_get (D := D) (ci := 6) (v := .int rs7) (C := RX6) (T := TX6) (N := 11) hx hb hts hi6 hown hK hP 2 rfl rfl 7 (by decide) (hts (.fieldLink RX6 56 "SelfCheckingCircuitModel" "reason" "I") (by decide +kernel)) (fun _ h9 => h9) rfl dX6_gateHere_137 ?_
                  refine lv_if_ne (tgt := 154) hx hb dX6_gateHere_140 (by decide) (fun c_55 => ?_) (fun c_55 => ?_)
                  · have c_55h : ¬ rs7 = (0 : Int32) := c_55
                    have hP9 := hP.sub (ws' := [(mo, .inr (6, [.ref ms, .ref mr, .ref mk, .int (nI km), .ref mt, .int (nI L), .int (nI (p2 + 1)), .int rs7, .int (nI ws), .ref mv, .ref me])), (mt, .inl (g.2.1, 200, .inl fx)), (mr, .inl (g.2.1, 147, .inl fr))]) [2, 1, 0] rfl
                    have hD9 := hD.sub (ws' := [(mo, .inr (6, [.ref ms, .ref mr, .ref mk, .int (nI km), .ref mt, .int (nI L), .int (nI (p2 + 1)), .int rs7, .int (nI ws), .ref mv, .ref me])), (mt, .inl (g.2.1, 200, .inl fx)), (mr, .inl (g.2.1, 147, .inl fr))]) [2, 1, 0] (by decide) rfl
                    exact W.vret hx hb hr (fun tt ht hW => ⟨⟨(rs7, (p2 + 1), fr), rfl, gh_n hX (by omega) hQ.2.1 hMF hck (Or.inr ⟨rfl, fun z => c_48 (z.2.1.mpr rfl)⟩) (Or.inl ⟨rfl, (by have := hk_nge 24 c_51 (hi := by omega); omega)⟩) c_55, by rw [ht]; exact hP9, hD9⟩, hS.F ht⟩) hS.2.2 dX6_gateHere_154
                  · have c_55h : rs7 = (0 : Int32) := c_55
                    exact absurd rfl (ck_0 hck c_55).2.1
              · have c_50h : (0 : Int32) = (1 : Int32) := c_50
                exact absurd c_50 (by decide)
          · have c_48h : r1 = (5 : Int32) := c_48
            refine lv_iconst (v := 1) hx hb dX6_gateHere_74 (by decide) ?_
            refine lv_goto (tgt := 79) hx hb dX6_gateHere_75 (by decide) ?_
            refine lv_iload_n hx hb dX6_gateHere_79 rfl (lv_at hl 1 rfl) ?_
            refine lv_if_ne (tgt := 87) hx hb dX6_gateHere_80 (by decide) (fun c_56 => ?_) (fun c_56 => ?_)
            · have c_56h : ¬ (0 : Int32) = (0 : Int32) := c_56
              exact absurd c_56 (by decide)
            · have c_56h : (0 : Int32) = (0 : Int32) := c_56
              refine lv_iconst (v := 1) hx hb dX6_gateHere_83 (by decide) ?_
              refine lv_goto (tgt := 88) hx hb dX6_gateHere_84 (by decide) ?_
              refine lv_icmp_ne (tgt := 116) hx hb dX6_gateHere_88 (by decide) (fun c_57 => ?_) (fun c_57 => ?_)
              · have c_57h : ¬ (1 : Int32) = (1 : Int32) := c_57
                exact absurd c_57 (by decide)
              · have c_57h : (1 : Int32) = (1 : Int32) := c_57
                refine lv_aload_n hx hb dX6_gateHere_91 rfl (lv_at hl 4 rfl) ?_
                refine lv_iload_n hx hb dX6_gateHere_92 rfl (lv_at hl 2 rfl) ?_
                refine hk_csi (va_runV (As := [.int r2]) (rest := [.ref mo]) ⟨hx, hb, hml, hown, hts⟩ (c6_isNodeOf l D g ti mo ms mr mk mt mv me km ws L (p2 + 1) rsb2 fr N r2 (mr_N hM hQ.2.1)) (cwV 1 hts gX6_gateHere_X6_isNodeOf rfl rfl rfl (by decide +kernel) ⟨Nat.le_of_ble_eq_true rfl, Nat.le_of_ble_eq_true rfl⟩) (hk_roV hE hP hS 6 rfl rfl [1, 0] rfl rfl) rfl rfl hl.1 rfl (lv_room (Nat.le_of_ble_eq_true rfl)) dX6_gateHere_93 ⟨Nat.zero_le _, Nat.zero_le _⟩) (fun r_58 hr_59 => ?_)
                subst hr_59
                refine lv_if_eq (tgt := 116) hx hb dX6_gateHere_96 (by decide) (fun c_60 => ?_) (fun c_60 => ?_)
                · have c_60h : (if nI N ≤ r2 then 0 else 1) = (0 : Int32) := c_60
                  refine lv_iconst (v := 0) hx hb dX6_gateHere_116 (by decide) ?_
                  refine lv_aload_n hx hb dX6_gateHere_117 rfl (lv_at hl 4 rfl) ?_
                  refine va_get (D := D) (ci := 6) (v := .ref mr) (C := RX6) (T := TX6) (N := 11) hx hb hts hi6 hown hK hP 1 rfl rfl 1 (by decide) (hts (.fieldLink RX6 13 "SelfCheckingCircuitModel" "read" "[I") (by decide +kernel)) (fun _ h9 => h9) rfl dX6_gateHere_118 ?_
                  refine lv_iconst (v := 1) hx hb dX6_gateHere_121 (by decide) ?_
                  refine va_iald hx hb hK hP 0 1 rfl rfl (by unfold vp_in; decide) dX6_gateHere_122 ?_
                  refine hk_ti (fr 1) (congrArg fr (by decide)) ?_
                  refine hk_ti (nI (N - n)) (hM.1.2.1) ?_
                  refine lv_bipush (v := 24) hx hb dX6_gateHere_123 (by decide) ?_
                  refine lv_icmp_ge (tgt := 132) hx hb dX6_gateHere_125 (by decide) (fun c_61 => ?_) (fun c_61 => ?_)
                  · have c_61h : (24 : Int32) ≤ nI (N - n) := c_61
                    refine lv_iconst (v := 0) hx hb dX6_gateHere_132 (by decide) ?_
                    refine hk_cmv (wr := [(mr, .inl (g.2.1, 147, .inl fr)), (mt, .inl (g.2.1, 200, .inl fx))]) (va_runV (As := [.int 0, .int 0]) (rest := []) ⟨hx, hb, hml, hown, hts⟩ (c6_checked l D g ti _ mo ms mr mk mt mv me km ws L (p2 + 1) rsb2 0 0 ) (cwV 2 hts gX6_gateHere_X6_checked rfl rfl rfl (by decide +kernel) ⟨Nat.le_of_ble_eq_true rfl, Nat.le_of_ble_eq_true rfl⟩) (hk_inV hE hP hD hS hA 6 rfl rfl [1] (by decide) rfl rfl) rfl rfl hl.1 rfl (lv_room (Nat.le_of_ble_eq_true rfl)) dX6_gateHere_133 ⟨Nat.zero_le _, Nat.zero_le _⟩) hP hD hS hA [1] [0, 2] rfl rfl (by decide) (by decide) (fun rs7 H locs hck hP hD hS => ?_)
                    try dsimp only at hck
                    have hP : va_P D vwCl [(mr, .inl (g.2.1, 147, .inl fr)), (mt, .inl (g.2.1, 200, .inl fx)), (mo, .inr (6, [.ref ms, .ref mr, .ref mk, .int (nI km), .ref mt, .int (nI L), .int (nI (p2 + 1)), .int rs7, .int (nI ws), .ref mv, .ref me]))] H := hP
                    have hD : va_D A [(mr, .inl (g.2.1, 147, .inl fr)), (mt, .inl (g.2.1, 200, .inl fx)), (mo, .inr (6, [.ref ms, .ref mr, .ref mk, .int (nI km), .ref mt, .int (nI L), .int (nI (p2 + 1)), .int rs7, .int (nI ws), .ref mv, .ref me]))] := hD
                    refine lv_aload_n hx hb dX6_gateHere_136 rfl (lv_at hl 4 rfl) ?_
                    refine va_get (D := D) (ci := 6) (v := .int rs7) (C := RX6) (T := TX6) (N := 11) hx hb hts hi6 hown hK hP 2 rfl rfl 7 (by decide) (hts (.fieldLink RX6 56 "SelfCheckingCircuitModel" "reason" "I") (by decide +kernel)) (fun _ h9 => h9) rfl dX6_gateHere_137 ?_
                    refine lv_if_ne (tgt := 154) hx hb dX6_gateHere_140 (by decide) (fun c_63 => ?_) (fun c_63 => ?_)
                    · have c_63h : ¬ rs7 = (0 : Int32) := c_63
                      have hP9 := hP.sub (ws' := [(mo, .inr (6, [.ref ms, .ref mr, .ref mk, .int (nI km), .ref mt, .int (nI L), .int (nI (p2 + 1)), .int rs7, .int (nI ws), .ref mv, .ref me])), (mt, .inl (g.2.1, 200, .inl fx)), (mr, .inl (g.2.1, 147, .inl fr))]) [2, 1, 0] rfl
                      have hD9 := hD.sub (ws' := [(mo, .inr (6, [.ref ms, .ref mr, .ref mk, .int (nI km), .ref mt, .int (nI L), .int (nI (p2 + 1)), .int rs7, .int (nI ws), .ref mv, .ref me])), (mt, .inl (g.2.1, 200, .inl fx)), (mr, .inl (g.2.1, 147, .inl fr))]) [2, 1, 0] (by decide) rfl
                      exact W.vret hx hb hr (fun tt ht hW => ⟨⟨(rs7, (p2 + 1), fr), rfl, gh_n hX (by omega) hQ.2.1 hMF hck (Or.inr ⟨rfl, fun z => z.2.2.1 (ic_0 c_60)⟩) (Or.inr ⟨rfl, (by have := hk_ge 24 c_61 (hi := by omega); omega)⟩) c_63, by rw [ht]; exact hP9, hD9⟩, hS.F ht⟩) hS.2.2 dX6_gateHere_154
                    · have c_63h : rs7 = (0 : Int32) := c_63
                      exact absurd rfl (ck_0 hck c_63).2.1
                  · have c_61h : ¬ (24 : Int32) ≤ nI (N - n) := c_61
                    refine lv_iconst (v := 1) hx hb dX6_gateHere_128 (by decide) ?_
                    refine lv_goto (tgt := 133) hx hb dX6_gateHere_129 (by decide) ?_
                    refine hk_cmv (wr := [(mr, .inl (g.2.1, 147, .inl fr)), (mt, .inl (g.2.1, 200, .inl fx))]) (va_runV (As := [.int 0, .int 1]) (rest := []) ⟨hx, hb, hml, hown, hts⟩ (c6_checked l D g ti _ mo ms mr mk mt mv me km ws L (p2 + 1) rsb2 0 1 ) (cwV 2 hts gX6_gateHere_X6_checked rfl rfl rfl (by decide +kernel) ⟨Nat.le_of_ble_eq_true rfl, Nat.le_of_ble_eq_true rfl⟩) (hk_inV hE hP hD hS hA 6 rfl rfl [1] (by decide) rfl rfl) rfl rfl hl.1 rfl (lv_room (Nat.le_of_ble_eq_true rfl)) dX6_gateHere_133 ⟨Nat.zero_le _, Nat.zero_le _⟩) hP hD hS hA [1] [0, 2] rfl rfl (by decide) (by decide) (fun rs7 H locs hck hP hD hS => ?_)
                    try dsimp only at hck
                    have hP : va_P D vwCl [(mr, .inl (g.2.1, 147, .inl fr)), (mt, .inl (g.2.1, 200, .inl fx)), (mo, .inr (6, [.ref ms, .ref mr, .ref mk, .int (nI km), .ref mt, .int (nI L), .int (nI (p2 + 1)), .int rs7, .int (nI ws), .ref mv, .ref me]))] H := hP
                    have hD : va_D A [(mr, .inl (g.2.1, 147, .inl fr)), (mt, .inl (g.2.1, 200, .inl fx)), (mo, .inr (6, [.ref ms, .ref mr, .ref mk, .int (nI km), .ref mt, .int (nI L), .int (nI (p2 + 1)), .int rs7, .int (nI ws), .ref mv, .ref me]))] := hD
                    refine lv_aload_n hx hb dX6_gateHere_136 rfl (lv_at hl 4 rfl) ?_
                    refine va_get (D := D) (ci := 6) (v := .int rs7) (C := RX6) (T := TX6) (N := 11) hx hb hts hi6 hown hK hP 2 rfl rfl 7 (by decide) (hts (.fieldLink RX6 56 "SelfCheckingCircuitModel" "reason" "I") (by decide +kernel)) (fun _ h9 => h9) rfl dX6_gateHere_137 ?_
                    refine lv_if_ne (tgt := 154) hx hb dX6_gateHere_140 (by decide) (fun c_65 => ?_) (fun c_65 => ?_)
                    · have c_65h : ¬ rs7 = (0 : Int32) := c_65
                      have hP9 := hP.sub (ws' := [(mo, .inr (6, [.ref ms, .ref mr, .ref mk, .int (nI km), .ref mt, .int (nI L), .int (nI (p2 + 1)), .int rs7, .int (nI ws), .ref mv, .ref me])), (mt, .inl (g.2.1, 200, .inl fx)), (mr, .inl (g.2.1, 147, .inl fr))]) [2, 1, 0] rfl
                      have hD9 := hD.sub (ws' := [(mo, .inr (6, [.ref ms, .ref mr, .ref mk, .int (nI km), .ref mt, .int (nI L), .int (nI (p2 + 1)), .int rs7, .int (nI ws), .ref mv, .ref me])), (mt, .inl (g.2.1, 200, .inl fx)), (mr, .inl (g.2.1, 147, .inl fr))]) [2, 1, 0] (by decide) rfl
                      exact W.vret hx hb hr (fun tt ht hW => ⟨⟨(rs7, (p2 + 1), fr), rfl, gh_n hX (by omega) hQ.2.1 hMF hck (Or.inr ⟨rfl, fun z => z.2.2.1 (ic_0 c_60)⟩) (Or.inl ⟨rfl, (by have := hk_nge 24 c_61 (hi := by omega); omega)⟩) c_65, by rw [ht]; exact hP9, hD9⟩, hS.F ht⟩) hS.2.2 dX6_gateHere_154
                    · have c_65h : rs7 = (0 : Int32) := c_65
                      exact absurd rfl (ck_0 hck c_65).2.1
                · have c_60h : ¬ (if nI N ≤ r2 then 0 else 1) = (0 : Int32) := c_60
                  refine lv_iload_n hx hb dX6_gateHere_99 rfl (lv_at hl 1 rfl) ?_
                  refine lv_if_eq (tgt := 112) hx hb dX6_gateHere_100 (by decide) (fun c_66 => ?_) (fun c_66 => ?_)
                  · have c_66h : (0 : Int32) = (0 : Int32) := c_66
                    refine lv_iconst (v := 1) hx hb dX6_gateHere_112 (by decide) ?_
                    refine lv_goto (tgt := 117) hx hb dX6_gateHere_113 (by decide) ?_
                    refine lv_aload_n hx hb dX6_gateHere_117 rfl (lv_at hl 4 rfl) ?_
                    refine va_get (D := D) (ci := 6) (v := .ref mr) (C := RX6) (T := TX6) (N := 11) hx hb hts hi6 hown hK hP 1 rfl rfl 1 (by decide) (hts (.fieldLink RX6 13 "SelfCheckingCircuitModel" "read" "[I") (by decide +kernel)) (fun _ h9 => h9) rfl dX6_gateHere_118 ?_
                    refine lv_iconst (v := 1) hx hb dX6_gateHere_121 (by decide) ?_
                    refine va_iald hx hb hK hP 0 1 rfl rfl (by unfold vp_in; decide) dX6_gateHere_122 ?_
                    refine hk_ti (fr 1) (congrArg fr (by decide)) ?_
                    refine hk_ti (nI (N - n)) (hM.1.2.1) ?_
                    refine lv_bipush (v := 24) hx hb dX6_gateHere_123 (by decide) ?_
                    refine lv_icmp_ge (tgt := 132) hx hb dX6_gateHere_125 (by decide) (fun c_67 => ?_) (fun c_67 => ?_)
                    · have c_67h : (24 : Int32) ≤ nI (N - n) := c_67
                      refine lv_iconst (v := 0) hx hb dX6_gateHere_132 (by decide) ?_
                      refine hk_cmv (wr := [(mr, .inl (g.2.1, 147, .inl fr)), (mt, .inl (g.2.1, 200, .inl fx))]) (va_runV (As := [.int 1, .int 0]) (rest := []) ⟨hx, hb, hml, hown, hts⟩ (c6_checked l D g ti _ mo ms mr mk mt mv me km ws L (p2 + 1) rsb2 1 0 ) (cwV 2 hts gX6_gateHere_X6_checked rfl rfl rfl (by decide +kernel) ⟨Nat.le_of_ble_eq_true rfl, Nat.le_of_ble_eq_true rfl⟩) (hk_inV hE hP hD hS hA 6 rfl rfl [1] (by decide) rfl rfl) rfl rfl hl.1 rfl (lv_room (Nat.le_of_ble_eq_true rfl)) dX6_gateHere_133 ⟨Nat.zero_le _, Nat.zero_le _⟩) hP hD hS hA [1] [0, 2] rfl rfl (by decide) (by decide) (fun rs7 H locs hck hP hD hS => ?_)
                      try dsimp only at hck
                      have hP : va_P D vwCl [(mr, .inl (g.2.1, 147, .inl fr)), (mt, .inl (g.2.1, 200, .inl fx)), (mo, .inr (6, [.ref ms, .ref mr, .ref mk, .int (nI km), .ref mt, .int (nI L), .int (nI (p2 + 1)), .int rs7, .int (nI ws), .ref mv, .ref me]))] H := hP
                      have hD : va_D A [(mr, .inl (g.2.1, 147, .inl fr)), (mt, .inl (g.2.1, 200, .inl fx)), (mo, .inr (6, [.ref ms, .ref mr, .ref mk, .int (nI km), .ref mt, .int (nI L), .int (nI (p2 + 1)), .int rs7, .int (nI ws), .ref mv, .ref me]))] := hD
                      refine lv_aload_n hx hb dX6_gateHere_136 rfl (lv_at hl 4 rfl) ?_
                      refine va_get (D := D) (ci := 6) (v := .int rs7) (C := RX6) (T := TX6) (N := 11) hx hb hts hi6 hown hK hP 2 rfl rfl 7 (by decide) (hts (.fieldLink RX6 56 "SelfCheckingCircuitModel" "reason" "I") (by decide +kernel)) (fun _ h9 => h9) rfl dX6_gateHere_137 ?_
                      refine lv_if_ne (tgt := 154) hx hb dX6_gateHere_140 (by decide) (fun c_69 => ?_) (fun c_69 => ?_)
                      · have c_69h : ¬ rs7 = (0 : Int32) := c_69
                        have hP9 := hP.sub (ws' := [(mo, .inr (6, [.ref ms, .ref mr, .ref mk, .int (nI km), .ref mt, .int (nI L), .int (nI (p2 + 1)), .int rs7, .int (nI ws), .ref mv, .ref me])), (mt, .inl (g.2.1, 200, .inl fx)), (mr, .inl (g.2.1, 147, .inl fr))]) [2, 1, 0] rfl
                        have hD9 := hD.sub (ws' := [(mo, .inr (6, [.ref ms, .ref mr, .ref mk, .int (nI km), .ref mt, .int (nI L), .int (nI (p2 + 1)), .int rs7, .int (nI ws), .ref mv, .ref me])), (mt, .inl (g.2.1, 200, .inl fx)), (mr, .inl (g.2.1, 147, .inl fr))]) [2, 1, 0] (by decide) rfl
                        exact W.vret hx hb hr (fun tt ht hW => ⟨⟨(rs7, (p2 + 1), fr), rfl, gh_n hX (by omega) hQ.2.1 hMF hck (Or.inl ⟨rfl, ⟨c_42, ⟨fun _ => rfl, fun _ => c_48⟩, ic_1 c_60, fun q => (by cases q)⟩⟩) (Or.inr ⟨rfl, (by have := hk_ge 24 c_67 (hi := by omega); omega)⟩) c_69, by rw [ht]; exact hP9, hD9⟩, hS.F ht⟩) hS.2.2 dX6_gateHere_154
                      · have c_69h : rs7 = (0 : Int32) := c_69
                        exact absurd rfl (ck_0 hck c_69).2.2
                    · have c_67h : ¬ (24 : Int32) ≤ nI (N - n) := c_67
                      refine lv_iconst (v := 1) hx hb dX6_gateHere_128 (by decide) ?_
                      refine lv_goto (tgt := 133) hx hb dX6_gateHere_129 (by decide) ?_
                      refine hk_cmv (wr := [(mr, .inl (g.2.1, 147, .inl fr)), (mt, .inl (g.2.1, 200, .inl fx))]) (va_runV (As := [.int 1, .int 1]) (rest := []) ⟨hx, hb, hml, hown, hts⟩ (c6_checked l D g ti _ mo ms mr mk mt mv me km ws L (p2 + 1) rsb2 1 1 ) (cwV 2 hts gX6_gateHere_X6_checked rfl rfl rfl (by decide +kernel) ⟨Nat.le_of_ble_eq_true rfl, Nat.le_of_ble_eq_true rfl⟩) (hk_inV hE hP hD hS hA 6 rfl rfl [1] (by decide) rfl rfl) rfl rfl hl.1 rfl (lv_room (Nat.le_of_ble_eq_true rfl)) dX6_gateHere_133 ⟨Nat.zero_le _, Nat.zero_le _⟩) hP hD hS hA [1] [0, 2] rfl rfl (by decide) (by decide) (fun rs7 H locs hck hP hD hS => ?_)
                      try dsimp only at hck
                      have hP : va_P D vwCl [(mr, .inl (g.2.1, 147, .inl fr)), (mt, .inl (g.2.1, 200, .inl fx)), (mo, .inr (6, [.ref ms, .ref mr, .ref mk, .int (nI km), .ref mt, .int (nI L), .int (nI (p2 + 1)), .int rs7, .int (nI ws), .ref mv, .ref me]))] H := hP
                      have hD : va_D A [(mr, .inl (g.2.1, 147, .inl fr)), (mt, .inl (g.2.1, 200, .inl fx)), (mo, .inr (6, [.ref ms, .ref mr, .ref mk, .int (nI km), .ref mt, .int (nI L), .int (nI (p2 + 1)), .int rs7, .int (nI ws), .ref mv, .ref me]))] := hD
                      refine lv_aload_n hx hb dX6_gateHere_136 rfl (lv_at hl 4 rfl) ?_
                      refine va_get (D := D) (ci := 6) (v := .int rs7) (C := RX6) (T := TX6) (N := 11) hx hb hts hi6 hown hK hP 2 rfl rfl 7 (by decide) (hts (.fieldLink RX6 56 "SelfCheckingCircuitModel" "reason" "I") (by decide +kernel)) (fun _ h9 => h9) rfl dX6_gateHere_137 ?_
                      refine lv_if_ne (tgt := 154) hx hb dX6_gateHere_140 (by decide) (fun c_71 => ?_) (fun c_71 => ?_)
                      · have c_71h : ¬ rs7 = (0 : Int32) := c_71
                        have hP9 := hP.sub (ws' := [(mo, .inr (6, [.ref ms, .ref mr, .ref mk, .int (nI km), .ref mt, .int (nI L), .int (nI (p2 + 1)), .int rs7, .int (nI ws), .ref mv, .ref me])), (mt, .inl (g.2.1, 200, .inl fx)), (mr, .inl (g.2.1, 147, .inl fr))]) [2, 1, 0] rfl
                        have hD9 := hD.sub (ws' := [(mo, .inr (6, [.ref ms, .ref mr, .ref mk, .int (nI km), .ref mt, .int (nI L), .int (nI (p2 + 1)), .int rs7, .int (nI ws), .ref mv, .ref me])), (mt, .inl (g.2.1, 200, .inl fx)), (mr, .inl (g.2.1, 147, .inl fr))]) [2, 1, 0] (by decide) rfl
                        exact W.vret hx hb hr (fun tt ht hW => ⟨⟨(rs7, (p2 + 1), fr), rfl, gh_n hX (by omega) hQ.2.1 hMF hck (Or.inl ⟨rfl, ⟨c_42, ⟨fun _ => rfl, fun _ => c_48⟩, ic_1 c_60, fun q => (by cases q)⟩⟩) (Or.inl ⟨rfl, (by have := hk_nge 24 c_67 (hi := by omega); omega)⟩) c_71, by rw [ht]; exact hP9, hD9⟩, hS.F ht⟩) hS.2.2 dX6_gateHere_154
                      · have c_71h : rs7 = (0 : Int32) := c_71
                        refine lv_aload_n hx hb dX6_gateHere_143 rfl (lv_at hl 4 rfl) ?_
                        refine va_get (D := D) (ci := 6) (v := .ref mr) (C := RX6) (T := TX6) (N := 11) hx hb hts hi6 hown hK hP 2 rfl rfl 1 (by decide) (hts (.fieldLink RX6 13 "SelfCheckingCircuitModel" "read" "[I") (by decide +kernel)) (fun _ h9 => h9) rfl dX6_gateHere_144 ?_
                        refine lv_iload_n hx hb dX6_gateHere_147 rfl (lv_at hl 3 rfl) ?_
                        refine lv_iload_n hx hb dX6_gateHere_148 rfl (lv_at hl 2 rfl) ?_
                        refine lv_iload hx hb dX6_gateHere_149 (lv_at hl 0 rfl) ?_
                        refine hk_cmv (wr := [(mt, .inl (g.2.1, 200, .inl fx)), (mo, .inr (6, [.ref ms, .ref mr, .ref mk, .int (nI km), .ref mt, .int (nI L), .int (nI (p2 + 1)), .int rs7, .int (nI ws), .ref mv, .ref me]))]) (va_runS (As := [.ref mr, .int r1, .int r2, .int 0]) (rest := []) ⟨hx, hb, hml, hown, hts⟩ (c6_gate l D g ti _ mr fr r1 r2 0 (N - n) hM.1.2.1 (by have := (by have := hk_nge 24 c_67 (hi := by omega); omega); omega)) (va_cwS 4 hts gX6_gateHere_X6_gate rfl rfl rfl (by decide +kernel) ⟨Nat.le_of_ble_eq_true rfl, Nat.le_of_ble_eq_true rfl⟩) (hk_inS hE hP hD hS hA [0] (by decide) rfl) rfl rfl hl.1 rfl (lv_room (Nat.le_of_ble_eq_true rfl)) dX6_gateHere_151 ⟨Nat.zero_le _, Nat.zero_le _⟩) hP hD hS hA [0] [1, 2] rfl rfl (by decide) (by decide) (fun _ug H locs hr_73 hP hD hS => ?_)
                        try dsimp only at hr_73
                        have hP : va_P D vwCl [(mt, .inl (g.2.1, 200, .inl fx)), (mo, .inr (6, [.ref ms, .ref mr, .ref mk, .int (nI km), .ref mt, .int (nI L), .int (nI (p2 + 1)), .int rs7, .int (nI ws), .ref mv, .ref me])), (mr, .inl (g.2.1, 147, .inl (gU fr (N - n) r1 r2 0)))] H := hP
                        have hD : va_D A [(mt, .inl (g.2.1, 200, .inl fx)), (mo, .inr (6, [.ref ms, .ref mr, .ref mk, .int (nI km), .ref mt, .int (nI L), .int (nI (p2 + 1)), .int rs7, .int (nI ws), .ref mv, .ref me])), (mr, .inl (g.2.1, 147, .inl (gU fr (N - n) r1 r2 0)))] := hD
                        have hP9 := hP.sub (ws' := [(mo, .inr (6, [.ref ms, .ref mr, .ref mk, .int (nI km), .ref mt, .int (nI L), .int (nI (p2 + 1)), .int rs7, .int (nI ws), .ref mv, .ref me])), (mt, .inl (g.2.1, 200, .inl fx)), (mr, .inl (g.2.1, 147, .inl (gU fr (N - n) r1 r2 0)))]) [1, 0, 2] rfl
                        have hD9 := hD.sub (ws' := [(mo, .inr (6, [.ref ms, .ref mr, .ref mk, .int (nI km), .ref mt, .int (nI L), .int (nI (p2 + 1)), .int rs7, .int (nI ws), .ref mv, .ref me])), (mt, .inl (g.2.1, 200, .inl fx)), (mr, .inl (g.2.1, 147, .inl (gU fr (N - n) r1 r2 0)))]) [1, 0, 2] (by decide) rfl
                        exact W.vret hx hb hr (fun tt ht hW => ⟨⟨(rs7, (p2 + 1), (gU fr (N - n) r1 r2 0)), rfl, gh_y hX (by omega) hQ.2.1 hQ.2.2.2 hM hMF hck (⟨c_42, ⟨fun _ => rfl, fun _ => c_48⟩, ic_1 c_60, fun q => (by cases q)⟩) (by have := hk_nge 24 c_67 (hi := by omega); omega) c_71, by rw [ht]; exact hP9, hD9⟩, hS.F ht⟩) hS.2.2 dX6_gateHere_154
                  · have c_66h : ¬ (0 : Int32) = (0 : Int32) := c_66
                    exact absurd c_66 (by decide)
      · have c_40h : ¬ (0 : Int32) = (0 : Int32) := c_40
        exact absurd c_40 (by decide)
    · have c_39h : (nI (ca tx L p2)) = (44 : Int32) := c_39
      refine lv_iconst (v := 1) hx hb dX6_gateHere_32 (by decide) ?_
      refine lv_goto (tgt := 37) hx hb dX6_gateHere_33 (by decide) ?_
      refine lv_istore_n (lv' := [(3, .int 1), (2, .int r2), (1, .int r1), (0, .ref mo)]) hx hb dX6_gateHere_37 rfl hl (by decide) rfl (fun ls hl => ?_)
      refine lv_iconst (v := 0) hx hb dX6_gateHere_38 (by decide) ?_
      refine lv_istore (lv' := [(4, .int 0), (3, .int 1), (2, .int r2), (1, .int r1), (0, .ref mo)]) hx hb dX6_gateHere_39 hl (by decide) rfl (fun ls hl => ?_)
      refine lv_iload_n hx hb dX6_gateHere_41 rfl (lv_at hl 1 rfl) ?_
      refine lv_if_eq (tgt := 57) hx hb dX6_gateHere_42 (by decide) (fun c_74 => ?_) (fun c_74 => ?_)
      · have c_74h : (1 : Int32) = (0 : Int32) := c_74
        exact absurd c_74 (by decide)
      · have c_74h : ¬ (1 : Int32) = (0 : Int32) := c_74
        refine lv_aload_n hx hb dX6_gateHere_45 rfl (lv_at hl 4 rfl) ?_
        refine lv_bipush (v := 44) hx hb dX6_gateHere_46 (by decide) ?_
        refine hk_cmv (wr := [(mr, .inl (g.2.1, 147, .inl fr))]) (va_runV (As := [.int 44]) (rest := []) ⟨hx, hb, hml, hown, hts⟩ (c6_sign l D g ti _ mo ms mr mk mt mv me km ws L p2 rsa2 fx tx 44 hX (by have := hn1.2.2; have := hn2.2.2; omega)) (cwV 1 hts gX6_gateHere_X6_sign rfl rfl rfl (by decide +kernel) ⟨Nat.le_of_ble_eq_true rfl, Nat.le_of_ble_eq_true rfl⟩) (hk_inV hE hP hD hS hA 6 rfl rfl [1, 2] (by decide) rfl rfl) rfl rfl hl.1 rfl (lv_room (Nat.le_of_ble_eq_true rfl)) dX6_gateHere_48 ⟨Nat.zero_le _, Nat.zero_le _⟩) hP hD hS hA [1, 2] [0] rfl rfl (by decide) (by decide) (fun rsb2 H locs hs2 hP hD hS => ?_)
        try dsimp only at hs2
        have hP : va_P D vwCl [(mr, .inl (g.2.1, 147, .inl fr)), (mo, .inr (6, [.ref ms, .ref mr, .ref mk, .int (nI km), .ref mt, .int (nI L), .int (nI (p2 + 1)), .int rsb2, .int (nI ws), .ref mv, .ref me])), (mt, .inl (g.2.1, 200, .inl fx))] H := hP
        have hD : va_D A [(mr, .inl (g.2.1, 147, .inl fr)), (mo, .inr (6, [.ref ms, .ref mr, .ref mk, .int (nI km), .ref mt, .int (nI L), .int (nI (p2 + 1)), .int rsb2, .int (nI ws), .ref mv, .ref me])), (mt, .inl (g.2.1, 200, .inl fx))] := hD
        refine lv_aload_n hx hb dX6_gateHere_51 rfl (lv_at hl 4 rfl) ?_
        refine hk_cmi (wr := [(mr, .inl (g.2.1, 147, .inl fr))]) (va_runV (As := []) (rest := []) ⟨hx, hb, hml, hown, hts⟩ (c6_number l D g ti _ mo ms mr mk mt mv me km ws L (p2 + 1) rsb2 fx tx hX (by have := hn1.2.2; have := hn2.2.2; omega)) (cwV 0 hts gX6_gateHere_X6_number rfl rfl rfl (by decide +kernel) ⟨Nat.le_of_ble_eq_true rfl, Nat.le_of_ble_eq_true rfl⟩) (hk_inV hE hP hD hS hA 6 rfl rfl [1, 2] (by decide) rfl rfl) rfl rfl hl.1 rfl (lv_room (Nat.le_of_ble_eq_true rfl)) dX6_gateHere_52 ⟨Nat.zero_le _, Nat.zero_le _⟩) hP hD hS hA [1, 2] [0] rfl rfl (by decide) (by decide) (fun r3 un3 H locs hn3 hP hD hS => ?_)
        obtain ⟨rsa3, p3⟩ := un3
        try dsimp only at hn3
        have hP : va_P D vwCl [(mr, .inl (g.2.1, 147, .inl fr)), (mo, .inr (6, [.ref ms, .ref mr, .ref mk, .int (nI km), .ref mt, .int (nI L), .int (nI p3), .int rsa3, .int (nI ws), .ref mv, .ref me])), (mt, .inl (g.2.1, 200, .inl fx))] H := hP
        have hD : va_D A [(mr, .inl (g.2.1, 147, .inl fr)), (mo, .inr (6, [.ref ms, .ref mr, .ref mk, .int (nI km), .ref mt, .int (nI L), .int (nI p3), .int rsa3, .int (nI ws), .ref mv, .ref me])), (mt, .inl (g.2.1, 200, .inl fx))] := hD
        refine lv_istore (lv' := [(4, .int r3), (3, .int 1), (2, .int r2), (1, .int r1), (0, .ref mo)]) hx hb dX6_gateHere_55 hl (by decide) rfl (fun ls hl => ?_)
        refine lv_aload_n hx hb dX6_gateHere_57 rfl (lv_at hl 4 rfl) ?_
        refine lv_bipush (v := 59) hx hb dX6_gateHere_58 (by decide) ?_
        refine hk_cmv (wr := [(mr, .inl (g.2.1, 147, .inl fr))]) (va_runV (As := [.int 59]) (rest := []) ⟨hx, hb, hml, hown, hts⟩ (c6_sign l D g ti _ mo ms mr mk mt mv me km ws L p3 rsa3 fx tx 59 hX (by have := hn1.2.2; have := hn2.2.2; have := hn3.2.2; omega)) (cwV 1 hts gX6_gateHere_X6_sign rfl rfl rfl (by decide +kernel) ⟨Nat.le_of_ble_eq_true rfl, Nat.le_of_ble_eq_true rfl⟩) (hk_inV hE hP hD hS hA 6 rfl rfl [1, 2] (by decide) rfl rfl) rfl rfl hl.1 rfl (lv_room (Nat.le_of_ble_eq_true rfl)) dX6_gateHere_60 ⟨Nat.zero_le _, Nat.zero_le _⟩) hP hD hS hA [1, 2] [0] rfl rfl (by decide) (by decide) (fun rsb3 H locs hs3 hP hD hS => ?_)
        try dsimp only at hs3
        have hP : va_P D vwCl [(mr, .inl (g.2.1, 147, .inl fr)), (mo, .inr (6, [.ref ms, .ref mr, .ref mk, .int (nI km), .ref mt, .int (nI L), .int (nI (p3 + 1)), .int rsb3, .int (nI ws), .ref mv, .ref me])), (mt, .inl (g.2.1, 200, .inl fx))] H := hP
        have hD : va_D A [(mr, .inl (g.2.1, 147, .inl fr)), (mo, .inr (6, [.ref ms, .ref mr, .ref mk, .int (nI km), .ref mt, .int (nI L), .int (nI (p3 + 1)), .int rsb3, .int (nI ws), .ref mv, .ref me])), (mt, .inl (g.2.1, 200, .inl fx))] := hD
        have hMF := gf_C hX hn1 hs1 hn2 c_2 c_39 hs2 hn3 hs3
        refine lv_aload_n hx hb dX6_gateHere_63 rfl (lv_at hl 4 rfl) ?_
        refine lv_iload_n hx hb dX6_gateHere_64 rfl (lv_at hl 3 rfl) ?_
        refine lv_iconst (v := 5) hx hb dX6_gateHere_65 (by decide) ?_
        refine lv_icmp_gt (tgt := 116) hx hb dX6_gateHere_66 (by decide) (fun c_77 => ?_) (fun c_77 => ?_)
        · have c_77h : (5 : Int32) < r1 := c_77
          refine lv_iconst (v := 0) hx hb dX6_gateHere_116 (by decide) ?_
          refine lv_aload_n hx hb dX6_gateHere_117 rfl (lv_at hl 4 rfl) ?_
          refine va_get (D := D) (ci := 6) (v := .ref mr) (C := RX6) (T := TX6) (N := 11) hx hb hts hi6 hown hK hP 1 rfl rfl 1 (by decide) (hts (.fieldLink RX6 13 "SelfCheckingCircuitModel" "read" "[I") (by decide +kernel)) (fun _ h9 => h9) rfl dX6_gateHere_118 ?_
          refine lv_iconst (v := 1) hx hb dX6_gateHere_121 (by decide) ?_
          refine va_iald hx hb hK hP 0 1 rfl rfl (by unfold vp_in; decide) dX6_gateHere_122 ?_
          refine hk_ti (fr 1) (congrArg fr (by decide)) ?_
          refine hk_ti (nI (N - n)) (hM.1.2.1) ?_
          refine lv_bipush (v := 24) hx hb dX6_gateHere_123 (by decide) ?_
          refine lv_icmp_ge (tgt := 132) hx hb dX6_gateHere_125 (by decide) (fun c_78 => ?_) (fun c_78 => ?_)
          · have c_78h : (24 : Int32) ≤ nI (N - n) := c_78
            refine lv_iconst (v := 0) hx hb dX6_gateHere_132 (by decide) ?_
            refine hk_cmv (wr := [(mr, .inl (g.2.1, 147, .inl fr)), (mt, .inl (g.2.1, 200, .inl fx))]) (va_runV (As := [.int 0, .int 0]) (rest := []) ⟨hx, hb, hml, hown, hts⟩ (c6_checked l D g ti _ mo ms mr mk mt mv me km ws L (p3 + 1) rsb3 0 0 ) (cwV 2 hts gX6_gateHere_X6_checked rfl rfl rfl (by decide +kernel) ⟨Nat.le_of_ble_eq_true rfl, Nat.le_of_ble_eq_true rfl⟩) (hk_inV hE hP hD hS hA 6 rfl rfl [1] (by decide) rfl rfl) rfl rfl hl.1 rfl (lv_room (Nat.le_of_ble_eq_true rfl)) dX6_gateHere_133 ⟨Nat.zero_le _, Nat.zero_le _⟩) hP hD hS hA [1] [0, 2] rfl rfl (by decide) (by decide) (fun rs7 H locs hck hP hD hS => ?_)
            try dsimp only at hck
            have hP : va_P D vwCl [(mr, .inl (g.2.1, 147, .inl fr)), (mt, .inl (g.2.1, 200, .inl fx)), (mo, .inr (6, [.ref ms, .ref mr, .ref mk, .int (nI km), .ref mt, .int (nI L), .int (nI (p3 + 1)), .int rs7, .int (nI ws), .ref mv, .ref me]))] H := hP
            have hD : va_D A [(mr, .inl (g.2.1, 147, .inl fr)), (mt, .inl (g.2.1, 200, .inl fx)), (mo, .inr (6, [.ref ms, .ref mr, .ref mk, .int (nI km), .ref mt, .int (nI L), .int (nI (p3 + 1)), .int rs7, .int (nI ws), .ref mv, .ref me]))] := hD
            refine lv_aload_n hx hb dX6_gateHere_136 rfl (lv_at hl 4 rfl) ?_
            refine va_get (D := D) (ci := 6) (v := .int rs7) (C := RX6) (T := TX6) (N := 11) hx hb hts hi6 hown hK hP 2 rfl rfl 7 (by decide) (hts (.fieldLink RX6 56 "SelfCheckingCircuitModel" "reason" "I") (by decide +kernel)) (fun _ h9 => h9) rfl dX6_gateHere_137 ?_
            refine lv_if_ne (tgt := 154) hx hb dX6_gateHere_140 (by decide) (fun c_80 => ?_) (fun c_80 => ?_)
            · have c_80h : ¬ rs7 = (0 : Int32) := c_80
              have hP9 := hP.sub (ws' := [(mo, .inr (6, [.ref ms, .ref mr, .ref mk, .int (nI km), .ref mt, .int (nI L), .int (nI (p3 + 1)), .int rs7, .int (nI ws), .ref mv, .ref me])), (mt, .inl (g.2.1, 200, .inl fx)), (mr, .inl (g.2.1, 147, .inl fr))]) [2, 1, 0] rfl
              have hD9 := hD.sub (ws' := [(mo, .inr (6, [.ref ms, .ref mr, .ref mk, .int (nI km), .ref mt, .int (nI L), .int (nI (p3 + 1)), .int rs7, .int (nI ws), .ref mv, .ref me])), (mt, .inl (g.2.1, 200, .inl fx)), (mr, .inl (g.2.1, 147, .inl fr))]) [2, 1, 0] (by decide) rfl
              exact W.vret hx hb hr (fun tt ht hW => ⟨⟨(rs7, (p3 + 1), fr), rfl, gh_n hX (by omega) hQ.2.1 hMF hck (Or.inr ⟨rfl, fun z => z.1 c_77⟩) (Or.inr ⟨rfl, (by have := hk_ge 24 c_78 (hi := by omega); omega)⟩) c_80, by rw [ht]; exact hP9, hD9⟩, hS.F ht⟩) hS.2.2 dX6_gateHere_154
            · have c_80h : rs7 = (0 : Int32) := c_80
              exact absurd rfl (ck_0 hck c_80).2.1
          · have c_78h : ¬ (24 : Int32) ≤ nI (N - n) := c_78
            refine lv_iconst (v := 1) hx hb dX6_gateHere_128 (by decide) ?_
            refine lv_goto (tgt := 133) hx hb dX6_gateHere_129 (by decide) ?_
            refine hk_cmv (wr := [(mr, .inl (g.2.1, 147, .inl fr)), (mt, .inl (g.2.1, 200, .inl fx))]) (va_runV (As := [.int 0, .int 1]) (rest := []) ⟨hx, hb, hml, hown, hts⟩ (c6_checked l D g ti _ mo ms mr mk mt mv me km ws L (p3 + 1) rsb3 0 1 ) (cwV 2 hts gX6_gateHere_X6_checked rfl rfl rfl (by decide +kernel) ⟨Nat.le_of_ble_eq_true rfl, Nat.le_of_ble_eq_true rfl⟩) (hk_inV hE hP hD hS hA 6 rfl rfl [1] (by decide) rfl rfl) rfl rfl hl.1 rfl (lv_room (Nat.le_of_ble_eq_true rfl)) dX6_gateHere_133 ⟨Nat.zero_le _, Nat.zero_le _⟩) hP hD hS hA [1] [0, 2] rfl rfl (by decide) (by decide) (fun rs7 H locs hck hP hD hS => ?_)
            try dsimp only at hck
            have hP : va_P D vwCl [(mr, .inl (g.2.1, 147, .inl fr)), (mt, .inl (g.2.1, 200, .inl fx)), (mo, .inr (6, [.ref ms, .ref mr, .ref mk, .int (nI km), .ref mt, .int (nI L), .int (nI (p3 + 1)), .int rs7, .int (nI ws), .ref mv, .ref me]))] H := hP
            have hD : va_D A [(mr, .inl (g.2.1, 147, .inl fr)), (mt, .inl (g.2.1, 200, .inl fx)), (mo, .inr (6, [.ref ms, .ref mr, .ref mk, .int (nI km), .ref mt, .int (nI L), .int (nI (p3 + 1)), .int rs7, .int (nI ws), .ref mv, .ref me]))] := hD
            refine lv_aload_n hx hb dX6_gateHere_136 rfl (lv_at hl 4 rfl) ?_
            refine va_get (D := D) (ci := 6) (v := .int rs7) (C := RX6) (T := TX6) (N := 11) hx hb hts hi6 hown hK hP 2 rfl rfl 7 (by decide) (hts (.fieldLink RX6 56 "SelfCheckingCircuitModel" "reason" "I") (by decide +kernel)) (fun _ h9 => h9) rfl dX6_gateHere_137 ?_
            refine lv_if_ne (tgt := 154) hx hb dX6_gateHere_140 (by decide) (fun c_82 => ?_) (fun c_82 => ?_)
            · have c_82h : ¬ rs7 = (0 : Int32) := c_82
              have hP9 := hP.sub (ws' := [(mo, .inr (6, [.ref ms, .ref mr, .ref mk, .int (nI km), .ref mt, .int (nI L), .int (nI (p3 + 1)), .int rs7, .int (nI ws), .ref mv, .ref me])), (mt, .inl (g.2.1, 200, .inl fx)), (mr, .inl (g.2.1, 147, .inl fr))]) [2, 1, 0] rfl
              have hD9 := hD.sub (ws' := [(mo, .inr (6, [.ref ms, .ref mr, .ref mk, .int (nI km), .ref mt, .int (nI L), .int (nI (p3 + 1)), .int rs7, .int (nI ws), .ref mv, .ref me])), (mt, .inl (g.2.1, 200, .inl fx)), (mr, .inl (g.2.1, 147, .inl fr))]) [2, 1, 0] (by decide) rfl
              exact W.vret hx hb hr (fun tt ht hW => ⟨⟨(rs7, (p3 + 1), fr), rfl, gh_n hX (by omega) hQ.2.1 hMF hck (Or.inr ⟨rfl, fun z => z.1 c_77⟩) (Or.inl ⟨rfl, (by have := hk_nge 24 c_78 (hi := by omega); omega)⟩) c_82, by rw [ht]; exact hP9, hD9⟩, hS.F ht⟩) hS.2.2 dX6_gateHere_154
            · have c_82h : rs7 = (0 : Int32) := c_82
              exact absurd rfl (ck_0 hck c_82).2.1
        · have c_77h : ¬ (5 : Int32) < r1 := c_77
          refine lv_iload_n hx hb dX6_gateHere_69 rfl (lv_at hl 3 rfl) ?_
          refine lv_iconst (v := 5) hx hb dX6_gateHere_70 (by decide) ?_
          refine lv_icmp_ne (tgt := 78) hx hb dX6_gateHere_71 (by decide) (fun c_83 => ?_) (fun c_83 => ?_)
          · have c_83h : ¬ r1 = (5 : Int32) := c_83
            refine lv_iconst (v := 0) hx hb dX6_gateHere_78 (by decide) ?_
            refine lv_iload_n hx hb dX6_gateHere_79 rfl (lv_at hl 1 rfl) ?_
            refine lv_if_ne (tgt := 87) hx hb dX6_gateHere_80 (by decide) (fun c_84 => ?_) (fun c_84 => ?_)
            · have c_84h : ¬ (1 : Int32) = (0 : Int32) := c_84
              refine lv_iconst (v := 0) hx hb dX6_gateHere_87 (by decide) ?_
              refine lv_icmp_ne (tgt := 116) hx hb dX6_gateHere_88 (by decide) (fun c_85 => ?_) (fun c_85 => ?_)
              · have c_85h : ¬ (0 : Int32) = (0 : Int32) := c_85
                exact absurd c_85 (by decide)
              · have c_85h : (0 : Int32) = (0 : Int32) := c_85
                refine lv_aload_n hx hb dX6_gateHere_91 rfl (lv_at hl 4 rfl) ?_
                refine lv_iload_n hx hb dX6_gateHere_92 rfl (lv_at hl 2 rfl) ?_
                refine hk_csi (va_runV (As := [.int r2]) (rest := [.ref mo]) ⟨hx, hb, hml, hown, hts⟩ (c6_isNodeOf l D g ti mo ms mr mk mt mv me km ws L (p3 + 1) rsb3 fr N r2 (mr_N hM hQ.2.1)) (cwV 1 hts gX6_gateHere_X6_isNodeOf rfl rfl rfl (by decide +kernel) ⟨Nat.le_of_ble_eq_true rfl, Nat.le_of_ble_eq_true rfl⟩) (hk_roV hE hP hS 6 rfl rfl [1, 0] rfl rfl) rfl rfl hl.1 rfl (lv_room (Nat.le_of_ble_eq_true rfl)) dX6_gateHere_93 ⟨Nat.zero_le _, Nat.zero_le _⟩) (fun r_86 hr_87 => ?_)
                subst hr_87
                refine lv_if_eq (tgt := 116) hx hb dX6_gateHere_96 (by decide) (fun c_88 => ?_) (fun c_88 => ?_)
                · have c_88h : (if nI N ≤ r2 then 0 else 1) = (0 : Int32) := c_88
                  refine lv_iconst (v := 0) hx hb dX6_gateHere_116 (by decide) ?_
                  refine lv_aload_n hx hb dX6_gateHere_117 rfl (lv_at hl 4 rfl) ?_
                  refine va_get (D := D) (ci := 6) (v := .ref mr) (C := RX6) (T := TX6) (N := 11) hx hb hts hi6 hown hK hP 1 rfl rfl 1 (by decide) (hts (.fieldLink RX6 13 "SelfCheckingCircuitModel" "read" "[I") (by decide +kernel)) (fun _ h9 => h9) rfl dX6_gateHere_118 ?_
                  refine lv_iconst (v := 1) hx hb dX6_gateHere_121 (by decide) ?_
                  refine va_iald hx hb hK hP 0 1 rfl rfl (by unfold vp_in; decide) dX6_gateHere_122 ?_
                  refine hk_ti (fr 1) (congrArg fr (by decide)) ?_
                  refine hk_ti (nI (N - n)) (hM.1.2.1) ?_
                  refine lv_bipush (v := 24) hx hb dX6_gateHere_123 (by decide) ?_
                  refine lv_icmp_ge (tgt := 132) hx hb dX6_gateHere_125 (by decide) (fun c_89 => ?_) (fun c_89 => ?_)
                  · have c_89h : (24 : Int32) ≤ nI (N - n) := c_89
                    refine lv_iconst (v := 0) hx hb dX6_gateHere_132 (by decide) ?_
                    refine hk_cmv (wr := [(mr, .inl (g.2.1, 147, .inl fr)), (mt, .inl (g.2.1, 200, .inl fx))]) (va_runV (As := [.int 0, .int 0]) (rest := []) ⟨hx, hb, hml, hown, hts⟩ (c6_checked l D g ti _ mo ms mr mk mt mv me km ws L (p3 + 1) rsb3 0 0 ) (cwV 2 hts gX6_gateHere_X6_checked rfl rfl rfl (by decide +kernel) ⟨Nat.le_of_ble_eq_true rfl, Nat.le_of_ble_eq_true rfl⟩) (hk_inV hE hP hD hS hA 6 rfl rfl [1] (by decide) rfl rfl) rfl rfl hl.1 rfl (lv_room (Nat.le_of_ble_eq_true rfl)) dX6_gateHere_133 ⟨Nat.zero_le _, Nat.zero_le _⟩) hP hD hS hA [1] [0, 2] rfl rfl (by decide) (by decide) (fun rs7 H locs hck hP hD hS => ?_)
                    try dsimp only at hck
                    have hP : va_P D vwCl [(mr, .inl (g.2.1, 147, .inl fr)), (mt, .inl (g.2.1, 200, .inl fx)), (mo, .inr (6, [.ref ms, .ref mr, .ref mk, .int (nI km), .ref mt, .int (nI L), .int (nI (p3 + 1)), .int rs7, .int (nI ws), .ref mv, .ref me]))] H := hP
                    have hD : va_D A [(mr, .inl (g.2.1, 147, .inl fr)), (mt, .inl (g.2.1, 200, .inl fx)), (mo, .inr (6, [.ref ms, .ref mr, .ref mk, .int (nI km), .ref mt, .int (nI L), .int (nI (p3 + 1)), .int rs7, .int (nI ws), .ref mv, .ref me]))] := hD
                    refine lv_aload_n hx hb dX6_gateHere_136 rfl (lv_at hl 4 rfl) ?_
                    refine va_get (D := D) (ci := 6) (v := .int rs7) (C := RX6) (T := TX6) (N := 11) hx hb hts hi6 hown hK hP 2 rfl rfl 7 (by decide) (hts (.fieldLink RX6 56 "SelfCheckingCircuitModel" "reason" "I") (by decide +kernel)) (fun _ h9 => h9) rfl dX6_gateHere_137 ?_
                    refine lv_if_ne (tgt := 154) hx hb dX6_gateHere_140 (by decide) (fun c_91 => ?_) (fun c_91 => ?_)
                    · have c_91h : ¬ rs7 = (0 : Int32) := c_91
                      have hP9 := hP.sub (ws' := [(mo, .inr (6, [.ref ms, .ref mr, .ref mk, .int (nI km), .ref mt, .int (nI L), .int (nI (p3 + 1)), .int rs7, .int (nI ws), .ref mv, .ref me])), (mt, .inl (g.2.1, 200, .inl fx)), (mr, .inl (g.2.1, 147, .inl fr))]) [2, 1, 0] rfl
                      have hD9 := hD.sub (ws' := [(mo, .inr (6, [.ref ms, .ref mr, .ref mk, .int (nI km), .ref mt, .int (nI L), .int (nI (p3 + 1)), .int rs7, .int (nI ws), .ref mv, .ref me])), (mt, .inl (g.2.1, 200, .inl fx)), (mr, .inl (g.2.1, 147, .inl fr))]) [2, 1, 0] (by decide) rfl
                      exact W.vret hx hb hr (fun tt ht hW => ⟨⟨(rs7, (p3 + 1), fr), rfl, gh_n hX (by omega) hQ.2.1 hMF hck (Or.inr ⟨rfl, fun z => z.2.2.1 (ic_0 c_88)⟩) (Or.inr ⟨rfl, (by have := hk_ge 24 c_89 (hi := by omega); omega)⟩) c_91, by rw [ht]; exact hP9, hD9⟩, hS.F ht⟩) hS.2.2 dX6_gateHere_154
                    · have c_91h : rs7 = (0 : Int32) := c_91
                      exact absurd rfl (ck_0 hck c_91).2.1
                  · have c_89h : ¬ (24 : Int32) ≤ nI (N - n) := c_89
                    refine lv_iconst (v := 1) hx hb dX6_gateHere_128 (by decide) ?_
                    refine lv_goto (tgt := 133) hx hb dX6_gateHere_129 (by decide) ?_
                    refine hk_cmv (wr := [(mr, .inl (g.2.1, 147, .inl fr)), (mt, .inl (g.2.1, 200, .inl fx))]) (va_runV (As := [.int 0, .int 1]) (rest := []) ⟨hx, hb, hml, hown, hts⟩ (c6_checked l D g ti _ mo ms mr mk mt mv me km ws L (p3 + 1) rsb3 0 1 ) (cwV 2 hts gX6_gateHere_X6_checked rfl rfl rfl (by decide +kernel) ⟨Nat.le_of_ble_eq_true rfl, Nat.le_of_ble_eq_true rfl⟩) (hk_inV hE hP hD hS hA 6 rfl rfl [1] (by decide) rfl rfl) rfl rfl hl.1 rfl (lv_room (Nat.le_of_ble_eq_true rfl)) dX6_gateHere_133 ⟨Nat.zero_le _, Nat.zero_le _⟩) hP hD hS hA [1] [0, 2] rfl rfl (by decide) (by decide) (fun rs7 H locs hck hP hD hS => ?_)
                    try dsimp only at hck
                    have hP : va_P D vwCl [(mr, .inl (g.2.1, 147, .inl fr)), (mt, .inl (g.2.1, 200, .inl fx)), (mo, .inr (6, [.ref ms, .ref mr, .ref mk, .int (nI km), .ref mt, .int (nI L), .int (nI (p3 + 1)), .int rs7, .int (nI ws), .ref mv, .ref me]))] H := hP
                    have hD : va_D A [(mr, .inl (g.2.1, 147, .inl fr)), (mt, .inl (g.2.1, 200, .inl fx)), (mo, .inr (6, [.ref ms, .ref mr, .ref mk, .int (nI km), .ref mt, .int (nI L), .int (nI (p3 + 1)), .int rs7, .int (nI ws), .ref mv, .ref me]))] := hD
                    refine lv_aload_n hx hb dX6_gateHere_136 rfl (lv_at hl 4 rfl) ?_
                    refine va_get (D := D) (ci := 6) (v := .int rs7) (C := RX6) (T := TX6) (N := 11) hx hb hts hi6 hown hK hP 2 rfl rfl 7 (by decide) (hts (.fieldLink RX6 56 "SelfCheckingCircuitModel" "reason" "I") (by decide +kernel)) (fun _ h9 => h9) rfl dX6_gateHere_137 ?_
                    refine lv_if_ne (tgt := 154) hx hb dX6_gateHere_140 (by decide) (fun c_93 => ?_) (fun c_93 => ?_)
                    · have c_93h : ¬ rs7 = (0 : Int32) := c_93
                      have hP9 := hP.sub (ws' := [(mo, .inr (6, [.ref ms, .ref mr, .ref mk, .int (nI km), .ref mt, .int (nI L), .int (nI (p3 + 1)), .int rs7, .int (nI ws), .ref mv, .ref me])), (mt, .inl (g.2.1, 200, .inl fx)), (mr, .inl (g.2.1, 147, .inl fr))]) [2, 1, 0] rfl
                      have hD9 := hD.sub (ws' := [(mo, .inr (6, [.ref ms, .ref mr, .ref mk, .int (nI km), .ref mt, .int (nI L), .int (nI (p3 + 1)), .int rs7, .int (nI ws), .ref mv, .ref me])), (mt, .inl (g.2.1, 200, .inl fx)), (mr, .inl (g.2.1, 147, .inl fr))]) [2, 1, 0] (by decide) rfl
                      exact W.vret hx hb hr (fun tt ht hW => ⟨⟨(rs7, (p3 + 1), fr), rfl, gh_n hX (by omega) hQ.2.1 hMF hck (Or.inr ⟨rfl, fun z => z.2.2.1 (ic_0 c_88)⟩) (Or.inl ⟨rfl, (by have := hk_nge 24 c_89 (hi := by omega); omega)⟩) c_93, by rw [ht]; exact hP9, hD9⟩, hS.F ht⟩) hS.2.2 dX6_gateHere_154
                    · have c_93h : rs7 = (0 : Int32) := c_93
                      exact absurd rfl (ck_0 hck c_93).2.1
                · have c_88h : ¬ (if nI N ≤ r2 then 0 else 1) = (0 : Int32) := c_88
                  refine lv_iload_n hx hb dX6_gateHere_99 rfl (lv_at hl 1 rfl) ?_
                  refine lv_if_eq (tgt := 112) hx hb dX6_gateHere_100 (by decide) (fun c_94 => ?_) (fun c_94 => ?_)
                  · have c_94h : (1 : Int32) = (0 : Int32) := c_94
                    exact absurd c_94 (by decide)
                  · have c_94h : ¬ (1 : Int32) = (0 : Int32) := c_94
                    refine lv_aload_n hx hb dX6_gateHere_103 rfl (lv_at hl 4 rfl) ?_
                    refine lv_iload hx hb dX6_gateHere_104 (lv_at hl 0 rfl) ?_
                    refine hk_csi (va_runV (As := [.int r3]) (rest := [.ref mo]) ⟨hx, hb, hml, hown, hts⟩ (c6_isNodeOf l D g ti mo ms mr mk mt mv me km ws L (p3 + 1) rsb3 fr N r3 (mr_N hM hQ.2.1)) (cwV 1 hts gX6_gateHere_X6_isNodeOf rfl rfl rfl (by decide +kernel) ⟨Nat.le_of_ble_eq_true rfl, Nat.le_of_ble_eq_true rfl⟩) (hk_roV hE hP hS 6 rfl rfl [1, 0] rfl rfl) rfl rfl hl.1 rfl (lv_room (Nat.le_of_ble_eq_true rfl)) dX6_gateHere_106 ⟨Nat.zero_le _, Nat.zero_le _⟩) (fun r_95 hr_96 => ?_)
                    subst hr_96
                    refine lv_if_eq (tgt := 116) hx hb dX6_gateHere_109 (by decide) (fun c_97 => ?_) (fun c_97 => ?_)
                    · have c_97h : (if nI N ≤ r3 then 0 else 1) = (0 : Int32) := c_97
                      refine lv_iconst (v := 0) hx hb dX6_gateHere_116 (by decide) ?_
                      refine lv_aload_n hx hb dX6_gateHere_117 rfl (lv_at hl 4 rfl) ?_
                      refine va_get (D := D) (ci := 6) (v := .ref mr) (C := RX6) (T := TX6) (N := 11) hx hb hts hi6 hown hK hP 1 rfl rfl 1 (by decide) (hts (.fieldLink RX6 13 "SelfCheckingCircuitModel" "read" "[I") (by decide +kernel)) (fun _ h9 => h9) rfl dX6_gateHere_118 ?_
                      refine lv_iconst (v := 1) hx hb dX6_gateHere_121 (by decide) ?_
                      refine va_iald hx hb hK hP 0 1 rfl rfl (by unfold vp_in; decide) dX6_gateHere_122 ?_
                      refine hk_ti (fr 1) (congrArg fr (by decide)) ?_
                      refine hk_ti (nI (N - n)) (hM.1.2.1) ?_
                      refine lv_bipush (v := 24) hx hb dX6_gateHere_123 (by decide) ?_
                      refine lv_icmp_ge (tgt := 132) hx hb dX6_gateHere_125 (by decide) (fun c_98 => ?_) (fun c_98 => ?_)
                      · have c_98h : (24 : Int32) ≤ nI (N - n) := c_98
                        refine lv_iconst (v := 0) hx hb dX6_gateHere_132 (by decide) ?_
                        refine hk_cmv (wr := [(mr, .inl (g.2.1, 147, .inl fr)), (mt, .inl (g.2.1, 200, .inl fx))]) (va_runV (As := [.int 0, .int 0]) (rest := []) ⟨hx, hb, hml, hown, hts⟩ (c6_checked l D g ti _ mo ms mr mk mt mv me km ws L (p3 + 1) rsb3 0 0 ) (cwV 2 hts gX6_gateHere_X6_checked rfl rfl rfl (by decide +kernel) ⟨Nat.le_of_ble_eq_true rfl, Nat.le_of_ble_eq_true rfl⟩) (hk_inV hE hP hD hS hA 6 rfl rfl [1] (by decide) rfl rfl) rfl rfl hl.1 rfl (lv_room (Nat.le_of_ble_eq_true rfl)) dX6_gateHere_133 ⟨Nat.zero_le _, Nat.zero_le _⟩) hP hD hS hA [1] [0, 2] rfl rfl (by decide) (by decide) (fun rs7 H locs hck hP hD hS => ?_)
                        try dsimp only at hck
                        have hP : va_P D vwCl [(mr, .inl (g.2.1, 147, .inl fr)), (mt, .inl (g.2.1, 200, .inl fx)), (mo, .inr (6, [.ref ms, .ref mr, .ref mk, .int (nI km), .ref mt, .int (nI L), .int (nI (p3 + 1)), .int rs7, .int (nI ws), .ref mv, .ref me]))] H := hP
                        have hD : va_D A [(mr, .inl (g.2.1, 147, .inl fr)), (mt, .inl (g.2.1, 200, .inl fx)), (mo, .inr (6, [.ref ms, .ref mr, .ref mk, .int (nI km), .ref mt, .int (nI L), .int (nI (p3 + 1)), .int rs7, .int (nI ws), .ref mv, .ref me]))] := hD
                        refine lv_aload_n hx hb dX6_gateHere_136 rfl (lv_at hl 4 rfl) ?_
                        refine va_get (D := D) (ci := 6) (v := .int rs7) (C := RX6) (T := TX6) (N := 11) hx hb hts hi6 hown hK hP 2 rfl rfl 7 (by decide) (hts (.fieldLink RX6 56 "SelfCheckingCircuitModel" "reason" "I") (by decide +kernel)) (fun _ h9 => h9) rfl dX6_gateHere_137 ?_
                        refine lv_if_ne (tgt := 154) hx hb dX6_gateHere_140 (by decide) (fun c_100 => ?_) (fun c_100 => ?_)
                        · have c_100h : ¬ rs7 = (0 : Int32) := c_100
                          have hP9 := hP.sub (ws' := [(mo, .inr (6, [.ref ms, .ref mr, .ref mk, .int (nI km), .ref mt, .int (nI L), .int (nI (p3 + 1)), .int rs7, .int (nI ws), .ref mv, .ref me])), (mt, .inl (g.2.1, 200, .inl fx)), (mr, .inl (g.2.1, 147, .inl fr))]) [2, 1, 0] rfl
                          have hD9 := hD.sub (ws' := [(mo, .inr (6, [.ref ms, .ref mr, .ref mk, .int (nI km), .ref mt, .int (nI L), .int (nI (p3 + 1)), .int rs7, .int (nI ws), .ref mv, .ref me])), (mt, .inl (g.2.1, 200, .inl fx)), (mr, .inl (g.2.1, 147, .inl fr))]) [2, 1, 0] (by decide) rfl
                          exact W.vret hx hb hr (fun tt ht hW => ⟨⟨(rs7, (p3 + 1), fr), rfl, gh_n hX (by omega) hQ.2.1 hMF hck (Or.inr ⟨rfl, fun z => z.2.2.2 rfl (ic_0 c_97)⟩) (Or.inr ⟨rfl, (by have := hk_ge 24 c_98 (hi := by omega); omega)⟩) c_100, by rw [ht]; exact hP9, hD9⟩, hS.F ht⟩) hS.2.2 dX6_gateHere_154
                        · have c_100h : rs7 = (0 : Int32) := c_100
                          exact absurd rfl (ck_0 hck c_100).2.1
                      · have c_98h : ¬ (24 : Int32) ≤ nI (N - n) := c_98
                        refine lv_iconst (v := 1) hx hb dX6_gateHere_128 (by decide) ?_
                        refine lv_goto (tgt := 133) hx hb dX6_gateHere_129 (by decide) ?_
                        refine hk_cmv (wr := [(mr, .inl (g.2.1, 147, .inl fr)), (mt, .inl (g.2.1, 200, .inl fx))]) (va_runV (As := [.int 0, .int 1]) (rest := []) ⟨hx, hb, hml, hown, hts⟩ (c6_checked l D g ti _ mo ms mr mk mt mv me km ws L (p3 + 1) rsb3 0 1 ) (cwV 2 hts gX6_gateHere_X6_checked rfl rfl rfl (by decide +kernel) ⟨Nat.le_of_ble_eq_true rfl, Nat.le_of_ble_eq_true rfl⟩) (hk_inV hE hP hD hS hA 6 rfl rfl [1] (by decide) rfl rfl) rfl rfl hl.1 rfl (lv_room (Nat.le_of_ble_eq_true rfl)) dX6_gateHere_133 ⟨Nat.zero_le _, Nat.zero_le _⟩) hP hD hS hA [1] [0, 2] rfl rfl (by decide) (by decide) (fun rs7 H locs hck hP hD hS => ?_)
                        try dsimp only at hck
                        have hP : va_P D vwCl [(mr, .inl (g.2.1, 147, .inl fr)), (mt, .inl (g.2.1, 200, .inl fx)), (mo, .inr (6, [.ref ms, .ref mr, .ref mk, .int (nI km), .ref mt, .int (nI L), .int (nI (p3 + 1)), .int rs7, .int (nI ws), .ref mv, .ref me]))] H := hP
                        have hD : va_D A [(mr, .inl (g.2.1, 147, .inl fr)), (mt, .inl (g.2.1, 200, .inl fx)), (mo, .inr (6, [.ref ms, .ref mr, .ref mk, .int (nI km), .ref mt, .int (nI L), .int (nI (p3 + 1)), .int rs7, .int (nI ws), .ref mv, .ref me]))] := hD
                        refine lv_aload_n hx hb dX6_gateHere_136 rfl (lv_at hl 4 rfl) ?_
                        refine va_get (D := D) (ci := 6) (v := .int rs7) (C := RX6) (T := TX6) (N := 11) hx hb hts hi6 hown hK hP 2 rfl rfl 7 (by decide) (hts (.fieldLink RX6 56 "SelfCheckingCircuitModel" "reason" "I") (by decide +kernel)) (fun _ h9 => h9) rfl dX6_gateHere_137 ?_
                        refine lv_if_ne (tgt := 154) hx hb dX6_gateHere_140 (by decide) (fun c_102 => ?_) (fun c_102 => ?_)
                        · have c_102h : ¬ rs7 = (0 : Int32) := c_102
                          have hP9 := hP.sub (ws' := [(mo, .inr (6, [.ref ms, .ref mr, .ref mk, .int (nI km), .ref mt, .int (nI L), .int (nI (p3 + 1)), .int rs7, .int (nI ws), .ref mv, .ref me])), (mt, .inl (g.2.1, 200, .inl fx)), (mr, .inl (g.2.1, 147, .inl fr))]) [2, 1, 0] rfl
                          have hD9 := hD.sub (ws' := [(mo, .inr (6, [.ref ms, .ref mr, .ref mk, .int (nI km), .ref mt, .int (nI L), .int (nI (p3 + 1)), .int rs7, .int (nI ws), .ref mv, .ref me])), (mt, .inl (g.2.1, 200, .inl fx)), (mr, .inl (g.2.1, 147, .inl fr))]) [2, 1, 0] (by decide) rfl
                          exact W.vret hx hb hr (fun tt ht hW => ⟨⟨(rs7, (p3 + 1), fr), rfl, gh_n hX (by omega) hQ.2.1 hMF hck (Or.inr ⟨rfl, fun z => z.2.2.2 rfl (ic_0 c_97)⟩) (Or.inl ⟨rfl, (by have := hk_nge 24 c_98 (hi := by omega); omega)⟩) c_102, by rw [ht]; exact hP9, hD9⟩, hS.F ht⟩) hS.2.2 dX6_gateHere_154
                        · have c_102h : rs7 = (0 : Int32) := c_102
                          exact absurd rfl (ck_0 hck c_102).2.1
                    · have c_97h : ¬ (if nI N ≤ r3 then 0 else 1) = (0 : Int32) := c_97
                      refine lv_iconst (v := 1) hx hb dX6_gateHere_112 (by decide) ?_
                      refine lv_goto (tgt := 117) hx hb dX6_gateHere_113 (by decide) ?_
                      refine lv_aload_n hx hb dX6_gateHere_117 rfl (lv_at hl 4 rfl) ?_
                      refine va_get (D := D) (ci := 6) (v := .ref mr) (C := RX6) (T := TX6) (N := 11) hx hb hts hi6 hown hK hP 1 rfl rfl 1 (by decide) (hts (.fieldLink RX6 13 "SelfCheckingCircuitModel" "read" "[I") (by decide +kernel)) (fun _ h9 => h9) rfl dX6_gateHere_118 ?_
                      refine lv_iconst (v := 1) hx hb dX6_gateHere_121 (by decide) ?_
                      refine va_iald hx hb hK hP 0 1 rfl rfl (by unfold vp_in; decide) dX6_gateHere_122 ?_
                      refine hk_ti (fr 1) (congrArg fr (by decide)) ?_
                      refine hk_ti (nI (N - n)) (hM.1.2.1) ?_
                      refine lv_bipush (v := 24) hx hb dX6_gateHere_123 (by decide) ?_
                      refine lv_icmp_ge (tgt := 132) hx hb dX6_gateHere_125 (by decide) (fun c_103 => ?_) (fun c_103 => ?_)
                      · have c_103h : (24 : Int32) ≤ nI (N - n) := c_103
                        refine lv_iconst (v := 0) hx hb dX6_gateHere_132 (by decide) ?_
                        refine hk_cmv (wr := [(mr, .inl (g.2.1, 147, .inl fr)), (mt, .inl (g.2.1, 200, .inl fx))]) (va_runV (As := [.int 1, .int 0]) (rest := []) ⟨hx, hb, hml, hown, hts⟩ (c6_checked l D g ti _ mo ms mr mk mt mv me km ws L (p3 + 1) rsb3 1 0 ) (cwV 2 hts gX6_gateHere_X6_checked rfl rfl rfl (by decide +kernel) ⟨Nat.le_of_ble_eq_true rfl, Nat.le_of_ble_eq_true rfl⟩) (hk_inV hE hP hD hS hA 6 rfl rfl [1] (by decide) rfl rfl) rfl rfl hl.1 rfl (lv_room (Nat.le_of_ble_eq_true rfl)) dX6_gateHere_133 ⟨Nat.zero_le _, Nat.zero_le _⟩) hP hD hS hA [1] [0, 2] rfl rfl (by decide) (by decide) (fun rs7 H locs hck hP hD hS => ?_)
                        try dsimp only at hck
                        have hP : va_P D vwCl [(mr, .inl (g.2.1, 147, .inl fr)), (mt, .inl (g.2.1, 200, .inl fx)), (mo, .inr (6, [.ref ms, .ref mr, .ref mk, .int (nI km), .ref mt, .int (nI L), .int (nI (p3 + 1)), .int rs7, .int (nI ws), .ref mv, .ref me]))] H := hP
                        have hD : va_D A [(mr, .inl (g.2.1, 147, .inl fr)), (mt, .inl (g.2.1, 200, .inl fx)), (mo, .inr (6, [.ref ms, .ref mr, .ref mk, .int (nI km), .ref mt, .int (nI L), .int (nI (p3 + 1)), .int rs7, .int (nI ws), .ref mv, .ref me]))] := hD
                        refine lv_aload_n hx hb dX6_gateHere_136 rfl (lv_at hl 4 rfl) ?_
                        refine va_get (D := D) (ci := 6) (v := .int rs7) (C := RX6) (T := TX6) (N := 11) hx hb hts hi6 hown hK hP 2 rfl rfl 7 (by decide) (hts (.fieldLink RX6 56 "SelfCheckingCircuitModel" "reason" "I") (by decide +kernel)) (fun _ h9 => h9) rfl dX6_gateHere_137 ?_
                        refine lv_if_ne (tgt := 154) hx hb dX6_gateHere_140 (by decide) (fun c_105 => ?_) (fun c_105 => ?_)
                        · have c_105h : ¬ rs7 = (0 : Int32) := c_105
                          have hP9 := hP.sub (ws' := [(mo, .inr (6, [.ref ms, .ref mr, .ref mk, .int (nI km), .ref mt, .int (nI L), .int (nI (p3 + 1)), .int rs7, .int (nI ws), .ref mv, .ref me])), (mt, .inl (g.2.1, 200, .inl fx)), (mr, .inl (g.2.1, 147, .inl fr))]) [2, 1, 0] rfl
                          have hD9 := hD.sub (ws' := [(mo, .inr (6, [.ref ms, .ref mr, .ref mk, .int (nI km), .ref mt, .int (nI L), .int (nI (p3 + 1)), .int rs7, .int (nI ws), .ref mv, .ref me])), (mt, .inl (g.2.1, 200, .inl fx)), (mr, .inl (g.2.1, 147, .inl fr))]) [2, 1, 0] (by decide) rfl
                          exact W.vret hx hb hr (fun tt ht hW => ⟨⟨(rs7, (p3 + 1), fr), rfl, gh_n hX (by omega) hQ.2.1 hMF hck (Or.inl ⟨rfl, ⟨c_77, ⟨fun q => absurd q c_83, fun q => (by cases q)⟩, ic_1 c_88, fun _ => ic_1 c_97⟩⟩) (Or.inr ⟨rfl, (by have := hk_ge 24 c_103 (hi := by omega); omega)⟩) c_105, by rw [ht]; exact hP9, hD9⟩, hS.F ht⟩) hS.2.2 dX6_gateHere_154
                        · have c_105h : rs7 = (0 : Int32) := c_105
                          exact absurd rfl (ck_0 hck c_105).2.2
                      · have c_103h : ¬ (24 : Int32) ≤ nI (N - n) := c_103
                        refine lv_iconst (v := 1) hx hb dX6_gateHere_128 (by decide) ?_
                        refine lv_goto (tgt := 133) hx hb dX6_gateHere_129 (by decide) ?_
                        refine hk_cmv (wr := [(mr, .inl (g.2.1, 147, .inl fr)), (mt, .inl (g.2.1, 200, .inl fx))]) (va_runV (As := [.int 1, .int 1]) (rest := []) ⟨hx, hb, hml, hown, hts⟩ (c6_checked l D g ti _ mo ms mr mk mt mv me km ws L (p3 + 1) rsb3 1 1 ) (cwV 2 hts gX6_gateHere_X6_checked rfl rfl rfl (by decide +kernel) ⟨Nat.le_of_ble_eq_true rfl, Nat.le_of_ble_eq_true rfl⟩) (hk_inV hE hP hD hS hA 6 rfl rfl [1] (by decide) rfl rfl) rfl rfl hl.1 rfl (lv_room (Nat.le_of_ble_eq_true rfl)) dX6_gateHere_133 ⟨Nat.zero_le _, Nat.zero_le _⟩) hP hD hS hA [1] [0, 2] rfl rfl (by decide) (by decide) (fun rs7 H locs hck hP hD hS => ?_)
                        try dsimp only at hck
                        have hP : va_P D vwCl [(mr, .inl (g.2.1, 147, .inl fr)), (mt, .inl (g.2.1, 200, .inl fx)), (mo, .inr (6, [.ref ms, .ref mr, .ref mk, .int (nI km), .ref mt, .int (nI L), .int (nI (p3 + 1)), .int rs7, .int (nI ws), .ref mv, .ref me]))] H := hP
                        have hD : va_D A [(mr, .inl (g.2.1, 147, .inl fr)), (mt, .inl (g.2.1, 200, .inl fx)), (mo, .inr (6, [.ref ms, .ref mr, .ref mk, .int (nI km), .ref mt, .int (nI L), .int (nI (p3 + 1)), .int rs7, .int (nI ws), .ref mv, .ref me]))] := hD
                        refine lv_aload_n hx hb dX6_gateHere_136 rfl (lv_at hl 4 rfl) ?_
                        refine va_get (D := D) (ci := 6) (v := .int rs7) (C := RX6) (T := TX6) (N := 11) hx hb hts hi6 hown hK hP 2 rfl rfl 7 (by decide) (hts (.fieldLink RX6 56 "SelfCheckingCircuitModel" "reason" "I") (by decide +kernel)) (fun _ h9 => h9) rfl dX6_gateHere_137 ?_
                        refine lv_if_ne (tgt := 154) hx hb dX6_gateHere_140 (by decide) (fun c_107 => ?_) (fun c_107 => ?_)
                        · have c_107h : ¬ rs7 = (0 : Int32) := c_107
                          have hP9 := hP.sub (ws' := [(mo, .inr (6, [.ref ms, .ref mr, .ref mk, .int (nI km), .ref mt, .int (nI L), .int (nI (p3 + 1)), .int rs7, .int (nI ws), .ref mv, .ref me])), (mt, .inl (g.2.1, 200, .inl fx)), (mr, .inl (g.2.1, 147, .inl fr))]) [2, 1, 0] rfl
                          have hD9 := hD.sub (ws' := [(mo, .inr (6, [.ref ms, .ref mr, .ref mk, .int (nI km), .ref mt, .int (nI L), .int (nI (p3 + 1)), .int rs7, .int (nI ws), .ref mv, .ref me])), (mt, .inl (g.2.1, 200, .inl fx)), (mr, .inl (g.2.1, 147, .inl fr))]) [2, 1, 0] (by decide) rfl
                          exact W.vret hx hb hr (fun tt ht hW => ⟨⟨(rs7, (p3 + 1), fr), rfl, gh_n hX (by omega) hQ.2.1 hMF hck (Or.inl ⟨rfl, ⟨c_77, ⟨fun q => absurd q c_83, fun q => (by cases q)⟩, ic_1 c_88, fun _ => ic_1 c_97⟩⟩) (Or.inl ⟨rfl, (by have := hk_nge 24 c_103 (hi := by omega); omega)⟩) c_107, by rw [ht]; exact hP9, hD9⟩, hS.F ht⟩) hS.2.2 dX6_gateHere_154
                        · have c_107h : rs7 = (0 : Int32) := c_107
                          refine lv_aload_n hx hb dX6_gateHere_143 rfl (lv_at hl 4 rfl) ?_
                          refine va_get (D := D) (ci := 6) (v := .ref mr) (C := RX6) (T := TX6) (N := 11) hx hb hts hi6 hown hK hP 2 rfl rfl 1 (by decide) (hts (.fieldLink RX6 13 "SelfCheckingCircuitModel" "read" "[I") (by decide +kernel)) (fun _ h9 => h9) rfl dX6_gateHere_144 ?_
                          refine lv_iload_n hx hb dX6_gateHere_147 rfl (lv_at hl 3 rfl) ?_
                          refine lv_iload_n hx hb dX6_gateHere_148 rfl (lv_at hl 2 rfl) ?_
                          refine lv_iload hx hb dX6_gateHere_149 (lv_at hl 0 rfl) ?_
                          refine hk_cmv (wr := [(mt, .inl (g.2.1, 200, .inl fx)), (mo, .inr (6, [.ref ms, .ref mr, .ref mk, .int (nI km), .ref mt, .int (nI L), .int (nI (p3 + 1)), .int rs7, .int (nI ws), .ref mv, .ref me]))]) (va_runS (As := [.ref mr, .int r1, .int r2, .int r3]) (rest := []) ⟨hx, hb, hml, hown, hts⟩ (c6_gate l D g ti _ mr fr r1 r2 r3 (N - n) hM.1.2.1 (by have := (by have := hk_nge 24 c_103 (hi := by omega); omega); omega)) (va_cwS 4 hts gX6_gateHere_X6_gate rfl rfl rfl (by decide +kernel) ⟨Nat.le_of_ble_eq_true rfl, Nat.le_of_ble_eq_true rfl⟩) (hk_inS hE hP hD hS hA [0] (by decide) rfl) rfl rfl hl.1 rfl (lv_room (Nat.le_of_ble_eq_true rfl)) dX6_gateHere_151 ⟨Nat.zero_le _, Nat.zero_le _⟩) hP hD hS hA [0] [1, 2] rfl rfl (by decide) (by decide) (fun _ug H locs hr_109 hP hD hS => ?_)
                          try dsimp only at hr_109
                          have hP : va_P D vwCl [(mt, .inl (g.2.1, 200, .inl fx)), (mo, .inr (6, [.ref ms, .ref mr, .ref mk, .int (nI km), .ref mt, .int (nI L), .int (nI (p3 + 1)), .int rs7, .int (nI ws), .ref mv, .ref me])), (mr, .inl (g.2.1, 147, .inl (gU fr (N - n) r1 r2 r3)))] H := hP
                          have hD : va_D A [(mt, .inl (g.2.1, 200, .inl fx)), (mo, .inr (6, [.ref ms, .ref mr, .ref mk, .int (nI km), .ref mt, .int (nI L), .int (nI (p3 + 1)), .int rs7, .int (nI ws), .ref mv, .ref me])), (mr, .inl (g.2.1, 147, .inl (gU fr (N - n) r1 r2 r3)))] := hD
                          have hP9 := hP.sub (ws' := [(mo, .inr (6, [.ref ms, .ref mr, .ref mk, .int (nI km), .ref mt, .int (nI L), .int (nI (p3 + 1)), .int rs7, .int (nI ws), .ref mv, .ref me])), (mt, .inl (g.2.1, 200, .inl fx)), (mr, .inl (g.2.1, 147, .inl (gU fr (N - n) r1 r2 r3)))]) [1, 0, 2] rfl
                          have hD9 := hD.sub (ws' := [(mo, .inr (6, [.ref ms, .ref mr, .ref mk, .int (nI km), .ref mt, .int (nI L), .int (nI (p3 + 1)), .int rs7, .int (nI ws), .ref mv, .ref me])), (mt, .inl (g.2.1, 200, .inl fx)), (mr, .inl (g.2.1, 147, .inl (gU fr (N - n) r1 r2 r3)))]) [1, 0, 2] (by decide) rfl
                          exact W.vret hx hb hr (fun tt ht hW => ⟨⟨(rs7, (p3 + 1), (gU fr (N - n) r1 r2 r3)), rfl, gh_y hX (by omega) hQ.2.1 hQ.2.2.2 hM hMF hck (⟨c_77, ⟨fun q => absurd q c_83, fun q => (by cases q)⟩, ic_1 c_88, fun _ => ic_1 c_97⟩) (by have := hk_nge 24 c_103 (hi := by omega); omega) c_107, by rw [ht]; exact hP9, hD9⟩, hS.F ht⟩) hS.2.2 dX6_gateHere_154
            · have c_84h : (1 : Int32) = (0 : Int32) := c_84
              exact absurd c_84 (by decide)
          · have c_83h : r1 = (5 : Int32) := c_83
            refine lv_iconst (v := 1) hx hb dX6_gateHere_74 (by decide) ?_
            refine lv_goto (tgt := 79) hx hb dX6_gateHere_75 (by decide) ?_
            refine lv_iload_n hx hb dX6_gateHere_79 rfl (lv_at hl 1 rfl) ?_
            refine lv_if_ne (tgt := 87) hx hb dX6_gateHere_80 (by decide) (fun c_110 => ?_) (fun c_110 => ?_)
            · have c_110h : ¬ (1 : Int32) = (0 : Int32) := c_110
              refine lv_iconst (v := 0) hx hb dX6_gateHere_87 (by decide) ?_
              refine lv_icmp_ne (tgt := 116) hx hb dX6_gateHere_88 (by decide) (fun c_111 => ?_) (fun c_111 => ?_)
              · have c_111h : ¬ (1 : Int32) = (0 : Int32) := c_111
                refine lv_iconst (v := 0) hx hb dX6_gateHere_116 (by decide) ?_
                refine lv_aload_n hx hb dX6_gateHere_117 rfl (lv_at hl 4 rfl) ?_
                refine va_get (D := D) (ci := 6) (v := .ref mr) (C := RX6) (T := TX6) (N := 11) hx hb hts hi6 hown hK hP 1 rfl rfl 1 (by decide) (hts (.fieldLink RX6 13 "SelfCheckingCircuitModel" "read" "[I") (by decide +kernel)) (fun _ h9 => h9) rfl dX6_gateHere_118 ?_
                refine lv_iconst (v := 1) hx hb dX6_gateHere_121 (by decide) ?_
                refine va_iald hx hb hK hP 0 1 rfl rfl (by unfold vp_in; decide) dX6_gateHere_122 ?_
                refine hk_ti (fr 1) (congrArg fr (by decide)) ?_
                refine hk_ti (nI (N - n)) (hM.1.2.1) ?_
                refine lv_bipush (v := 24) hx hb dX6_gateHere_123 (by decide) ?_
                refine lv_icmp_ge (tgt := 132) hx hb dX6_gateHere_125 (by decide) (fun c_112 => ?_) (fun c_112 => ?_)
                · have c_112h : (24 : Int32) ≤ nI (N - n) := c_112
                  refine lv_iconst (v := 0) hx hb dX6_gateHere_132 (by decide) ?_
                  refine hk_cmv (wr := [(mr, .inl (g.2.1, 147, .inl fr)), (mt, .inl (g.2.1, 200, .inl fx))]) (va_runV (As := [.int 0, .int 0]) (rest := []) ⟨hx, hb, hml, hown, hts⟩ (c6_checked l D g ti _ mo ms mr mk mt mv me km ws L (p3 + 1) rsb3 0 0 ) (cwV 2 hts gX6_gateHere_X6_checked rfl rfl rfl (by decide +kernel) ⟨Nat.le_of_ble_eq_true rfl, Nat.le_of_ble_eq_true rfl⟩) (hk_inV hE hP hD hS hA 6 rfl rfl [1] (by decide) rfl rfl) rfl rfl hl.1 rfl (lv_room (Nat.le_of_ble_eq_true rfl)) dX6_gateHere_133 ⟨Nat.zero_le _, Nat.zero_le _⟩) hP hD hS hA [1] [0, 2] rfl rfl (by decide) (by decide) (fun rs7 H locs hck hP hD hS => ?_)
                  try dsimp only at hck
                  have hP : va_P D vwCl [(mr, .inl (g.2.1, 147, .inl fr)), (mt, .inl (g.2.1, 200, .inl fx)), (mo, .inr (6, [.ref ms, .ref mr, .ref mk, .int (nI km), .ref mt, .int (nI L), .int (nI (p3 + 1)), .int rs7, .int (nI ws), .ref mv, .ref me]))] H := hP
                  have hD : va_D A [(mr, .inl (g.2.1, 147, .inl fr)), (mt, .inl (g.2.1, 200, .inl fx)), (mo, .inr (6, [.ref ms, .ref mr, .ref mk, .int (nI km), .ref mt, .int (nI L), .int (nI (p3 + 1)), .int rs7, .int (nI ws), .ref mv, .ref me]))] := hD
                  refine lv_aload_n hx hb dX6_gateHere_136 rfl (lv_at hl 4 rfl) ?_
                  refine va_get (D := D) (ci := 6) (v := .int rs7) (C := RX6) (T := TX6) (N := 11) hx hb hts hi6 hown hK hP 2 rfl rfl 7 (by decide) (hts (.fieldLink RX6 56 "SelfCheckingCircuitModel" "reason" "I") (by decide +kernel)) (fun _ h9 => h9) rfl dX6_gateHere_137 ?_
                  refine lv_if_ne (tgt := 154) hx hb dX6_gateHere_140 (by decide) (fun c_114 => ?_) (fun c_114 => ?_)
                  · have c_114h : ¬ rs7 = (0 : Int32) := c_114
                    have hP9 := hP.sub (ws' := [(mo, .inr (6, [.ref ms, .ref mr, .ref mk, .int (nI km), .ref mt, .int (nI L), .int (nI (p3 + 1)), .int rs7, .int (nI ws), .ref mv, .ref me])), (mt, .inl (g.2.1, 200, .inl fx)), (mr, .inl (g.2.1, 147, .inl fr))]) [2, 1, 0] rfl
                    have hD9 := hD.sub (ws' := [(mo, .inr (6, [.ref ms, .ref mr, .ref mk, .int (nI km), .ref mt, .int (nI L), .int (nI (p3 + 1)), .int rs7, .int (nI ws), .ref mv, .ref me])), (mt, .inl (g.2.1, 200, .inl fx)), (mr, .inl (g.2.1, 147, .inl fr))]) [2, 1, 0] (by decide) rfl
                    exact W.vret hx hb hr (fun tt ht hW => ⟨⟨(rs7, (p3 + 1), fr), rfl, gh_n hX (by omega) hQ.2.1 hMF hck (Or.inr ⟨rfl, fun z => absurd (z.2.1.mp c_83) (by decide)⟩) (Or.inr ⟨rfl, (by have := hk_ge 24 c_112 (hi := by omega); omega)⟩) c_114, by rw [ht]; exact hP9, hD9⟩, hS.F ht⟩) hS.2.2 dX6_gateHere_154
                  · have c_114h : rs7 = (0 : Int32) := c_114
                    exact absurd rfl (ck_0 hck c_114).2.1
                · have c_112h : ¬ (24 : Int32) ≤ nI (N - n) := c_112
                  refine lv_iconst (v := 1) hx hb dX6_gateHere_128 (by decide) ?_
                  refine lv_goto (tgt := 133) hx hb dX6_gateHere_129 (by decide) ?_
                  refine hk_cmv (wr := [(mr, .inl (g.2.1, 147, .inl fr)), (mt, .inl (g.2.1, 200, .inl fx))]) (va_runV (As := [.int 0, .int 1]) (rest := []) ⟨hx, hb, hml, hown, hts⟩ (c6_checked l D g ti _ mo ms mr mk mt mv me km ws L (p3 + 1) rsb3 0 1 ) (cwV 2 hts gX6_gateHere_X6_checked rfl rfl rfl (by decide +kernel) ⟨Nat.le_of_ble_eq_true rfl, Nat.le_of_ble_eq_true rfl⟩) (hk_inV hE hP hD hS hA 6 rfl rfl [1] (by decide) rfl rfl) rfl rfl hl.1 rfl (lv_room (Nat.le_of_ble_eq_true rfl)) dX6_gateHere_133 ⟨Nat.zero_le _, Nat.zero_le _⟩) hP hD hS hA [1] [0, 2] rfl rfl (by decide) (by decide) (fun rs7 H locs hck hP hD hS => ?_)
                  try dsimp only at hck
                  have hP : va_P D vwCl [(mr, .inl (g.2.1, 147, .inl fr)), (mt, .inl (g.2.1, 200, .inl fx)), (mo, .inr (6, [.ref ms, .ref mr, .ref mk, .int (nI km), .ref mt, .int (nI L), .int (nI (p3 + 1)), .int rs7, .int (nI ws), .ref mv, .ref me]))] H := hP
                  have hD : va_D A [(mr, .inl (g.2.1, 147, .inl fr)), (mt, .inl (g.2.1, 200, .inl fx)), (mo, .inr (6, [.ref ms, .ref mr, .ref mk, .int (nI km), .ref mt, .int (nI L), .int (nI (p3 + 1)), .int rs7, .int (nI ws), .ref mv, .ref me]))] := hD
                  refine lv_aload_n hx hb dX6_gateHere_136 rfl (lv_at hl 4 rfl) ?_
                  refine va_get (D := D) (ci := 6) (v := .int rs7) (C := RX6) (T := TX6) (N := 11) hx hb hts hi6 hown hK hP 2 rfl rfl 7 (by decide) (hts (.fieldLink RX6 56 "SelfCheckingCircuitModel" "reason" "I") (by decide +kernel)) (fun _ h9 => h9) rfl dX6_gateHere_137 ?_
                  refine lv_if_ne (tgt := 154) hx hb dX6_gateHere_140 (by decide) (fun c_116 => ?_) (fun c_116 => ?_)
                  · have c_116h : ¬ rs7 = (0 : Int32) := c_116
                    have hP9 := hP.sub (ws' := [(mo, .inr (6, [.ref ms, .ref mr, .ref mk, .int (nI km), .ref mt, .int (nI L), .int (nI (p3 + 1)), .int rs7, .int (nI ws), .ref mv, .ref me])), (mt, .inl (g.2.1, 200, .inl fx)), (mr, .inl (g.2.1, 147, .inl fr))]) [2, 1, 0] rfl
                    have hD9 := hD.sub (ws' := [(mo, .inr (6, [.ref ms, .ref mr, .ref mk, .int (nI km), .ref mt, .int (nI L), .int (nI (p3 + 1)), .int rs7, .int (nI ws), .ref mv, .ref me])), (mt, .inl (g.2.1, 200, .inl fx)), (mr, .inl (g.2.1, 147, .inl fr))]) [2, 1, 0] (by decide) rfl
                    exact W.vret hx hb hr (fun tt ht hW => ⟨⟨(rs7, (p3 + 1), fr), rfl, gh_n hX (by omega) hQ.2.1 hMF hck (Or.inr ⟨rfl, fun z => absurd (z.2.1.mp c_83) (by decide)⟩) (Or.inl ⟨rfl, (by have := hk_nge 24 c_112 (hi := by omega); omega)⟩) c_116, by rw [ht]; exact hP9, hD9⟩, hS.F ht⟩) hS.2.2 dX6_gateHere_154
                  · have c_116h : rs7 = (0 : Int32) := c_116
                    exact absurd rfl (ck_0 hck c_116).2.1
              · have c_111h : (1 : Int32) = (0 : Int32) := c_111
                exact absurd c_111 (by decide)
            · have c_110h : (1 : Int32) = (0 : Int32) := c_110
              exact absurd c_110 (by decide)
