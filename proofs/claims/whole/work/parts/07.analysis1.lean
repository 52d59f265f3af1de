set_option maxHeartbeats 4000000 in
set_option maxRecDepth 100000 in
theorem c0_columnOf (l : Launch) (D : va_G) (g : hk_G) (ti : Nat) (z : Nat) (v0 : Value) (v2 : Value) (v3 : Value) (v4 : Value) (v5 : Value) (q1 : Nat) (nc : Nat → Int64) (v : Int32)  : Met l yX0_columnOf wsX0_columnOf ({ frames := 0, cells := 0, slots := 0, locals := 0 }) (va_Pc [.ref z, .int v] (hk_Ro D g ti [(z, .inr (0, [v0, .ref q1, v2, v3, v4, v5])), (q1, .inl (g.2.2.1, 30, .inr (.inl nc)))])) (vp_Sl (fun r => r = if v < 0 then 0 else if 30 ≤ v then 0 else nc v.toNatClampNeg)) 0 0 (fun _ => False) := by
  refine Met.ofW (cc := cX0_columnOf) (maxL := 2) (ret := (some .long)) (by decide) rfl ?_
  intro p e s m args below meth c s₁ Bd hml hv
  obtain ⟨rfl, hP, hE⟩ := hv
  have hx := Bd.exec
  have hb := Bd.bytes
  have hr := Bd.returns
  have hts := atoms_spec (ws := wsX0_columnOf) Bd.pre
  have hown : s.vm.findClass RX0 = some m.cls := findClass_of_methodNamed Bd.named
  have hlocks := Bd.notSynchronized
  have hK := hE.1
  have hi0 : ∀ w ∈ wsX00, w ∈ wsX0_columnOf := fun w h => List.mem_cons_of_mem _ (List.mem_append_right _ h)
  have hS : va_S (fun _ => False) s.heap s.heap [] := va_S.rf
  have hl := lv_entry ([.ref z, .int v]) (n := 2) (Nat.le_of_ble_eq_true rfl)
  rw [lg_entry_eq]
  generalize (lg_sl ([.ref z, .int v]) ++ List.replicate (2 - (lg_sl ([.ref z, .int v])).length) Slot.unset).toArray = ls at hl ⊢
  have hl : lv_has ls 2 [(0, .ref z), (1, .int v)] := hl
  refine lv_iload_n hx hb dX0_columnOf_0 rfl (lv_at hl 1 rfl) ?_
  refine lv_if_lt (tgt := 19) hx hb dX0_columnOf_1 (by decide) (fun c_1 => ?_) (fun c_1 => ?_)
  · have c_1h : v < (0 : Int32) := c_1
    refine lv_lconst (v := 0) hx hb dX0_columnOf_19 (by decide) ?_
    exact W.lret (v := 0) hx hb hr (fun t ht hW => ⟨_, rfl, by rw [if_pos c_1], ht⟩) (fun _ h => by cases h) dX0_columnOf_20
  · have c_1h : ¬ v < (0 : Int32) := c_1
    refine lv_iload_n hx hb dX0_columnOf_4 rfl (lv_at hl 1 rfl) ?_
    refine lv_bipush (v := 30) hx hb dX0_columnOf_5 (by decide) ?_
    refine lv_icmp_ge (tgt := 19) hx hb dX0_columnOf_7 (by decide) (fun c_2 => ?_) (fun c_2 => ?_)
    · have c_2h : (30 : Int32) ≤ v := c_2
      refine lv_lconst (v := 0) hx hb dX0_columnOf_19 (by decide) ?_
      exact W.lret (v := 0) hx hb hr (fun t ht hW => ⟨_, rfl, by rw [if_neg c_1, if_pos c_2], ht⟩) (fun _ h => by cases h) dX0_columnOf_20
    · have c_2h : ¬ (30 : Int32) ≤ v := c_2
      refine lv_aload_n hx hb dX0_columnOf_10 rfl (lv_at hl 0 rfl) ?_
      refine va_get (D := D) (ci := 0) (v := .ref q1) (C := RX0) (T := TX0) (N := 6) hx hb hts hi0 hown hK hP 0 rfl rfl 1 (by decide) (hts (.fieldLink RX0 9 "SelfCheckingCircuit$Analysis" "nodeColumns" "[J") (by decide +kernel)) (fun _ h9 => h9) rfl dX0_columnOf_11 ?_
      refine lv_iload_n hx hb dX0_columnOf_14 rfl (lv_at hl 1 rfl) ?_
      refine va_lald hx hb hK hP 1 2 rfl rfl (hk_inR (n := 30) (by decide) (by decide) c_1 c_2) dX0_columnOf_15 ?_
      refine lv_goto (tgt := 20) hx hb dX0_columnOf_16 (by decide) ?_
      exact W.lret (v := (nc v.toNatClampNeg)) hx hb hr (fun t ht hW => ⟨_, rfl, by rw [if_neg c_1, if_neg c_2], ht⟩) (fun _ h => by cases h) dX0_columnOf_20
theorem hk_rl {f : Nat → Int64} {i n : Nat} {d : Int64} {k : Int32} (hi : i < n) (hn : n < 2 ^ 31) (hk : k = nI n) : (if nI i < 0 then d else if k ≤ nI i then d else f (nI i).toNatClampNeg) = f i := by
  rw [if_neg (nI_pos (by omega)), if_neg (by rw [hk]; exact nI_ge hi hn), nI_clamp (by omega)]
set_option maxHeartbeats 4000000 in
set_option maxRecDepth 100000 in
theorem c0_columnOfBit (l : Launch) (D : va_G) (g : hk_G) (ti : Nat) (x : Int32) (k : Nat) (hk : k < 32) : Met l yX0_columnOfBit wsX0_columnOfBit ({ frames := 0, cells := 0, slots := 0, locals := 0 }) (va_Pc [.int x, .int (nI k)] (hk_Ro D g ti [])) (vp_Sl (fun r => r = bL (ib x k))) 0 0 (fun _ => False) := by
  refine Met.ofW (cc := cX0_columnOfBit) (maxL := 2) (ret := (some .long)) (by decide) rfl ?_
  intro p e s m args below meth c s₁ Bd hml hv
  obtain ⟨rfl, hP, hE⟩ := hv
  have hx := Bd.exec
  have hb := Bd.bytes
  have hr := Bd.returns
  have hts := atoms_spec (ws := wsX0_columnOfBit) Bd.pre
  have hown : s.vm.findClass RX0 = some m.cls := findClass_of_methodNamed Bd.named
  have hlocks := Bd.notSynchronized
  have hK := hE.1
  have hS : va_S (fun _ => False) s.heap s.heap [] := va_S.rf
  have hl := lv_entry ([.int x, .int (nI k)]) (n := 2) (Nat.le_of_ble_eq_true rfl)
  rw [lg_entry_eq]
  generalize (lg_sl ([.int x, .int (nI k)]) ++ List.replicate (2 - (lg_sl ([.int x, .int (nI k)])).length) Slot.unset).toArray = ls at hl ⊢
  have hl : lv_has ls 2 [(0, .int x), (1, .int (nI k))] := hl
  refine lv_iload_n hx hb dX0_columnOfBit_0 rfl (lv_at hl 0 rfl) ?_
  refine lv_iload_n hx hb dX0_columnOfBit_1 rfl (lv_at hl 1 rfl) ?_
  refine lv_ishr hx hb dX0_columnOfBit_2 ?_
  refine lv_i2l hx hb dX0_columnOfBit_3 rfl ?_
  refine lv_lconst (v := 1) hx hb dX0_columnOfBit_4 (by decide) ?_
  refine lv_land hx hb dX0_columnOfBit_5 ?_
  refine lv_lneg hx hb dX0_columnOfBit_6 ?_
  exact W.lret (v := (-((x >>> (nI k &&& 31)).toInt64 &&& (1 : Int64)))) hx hb hr (fun t ht hW => ⟨_, rfl, ib_col x hk, ht⟩) (fun _ h => by cases h) dX0_columnOfBit_7
theorem hk_g0 {t : Nat} {x y : Int64} (_ : t ≤ 5) (h : nI t = 0) : x &&& y = gL t x y := by rw [show t = 0 from (nI_eq (by omega) (by omega)).mp h]; rfl
theorem hk_g1 {t : Nat} {x y : Int64} (_ : t ≤ 5) (h : nI t = 1) : x ||| y = gL t x y := by rw [show t = 1 from (nI_eq (by omega) (by omega)).mp h]; rfl
theorem hk_g2 {t : Nat} {x y : Int64} (_ : t ≤ 5) (h : nI t = 2) : x ^^^ y = gL t x y := by rw [show t = 2 from (nI_eq (by omega) (by omega)).mp h]; rfl
theorem hk_g3 {t : Nat} {x y : Int64} (_ : t ≤ 5) (h : nI t = 3) : (x &&& y) ^^^ (-1) = gL t x y := by rw [show t = 3 from (nI_eq (by omega) (by omega)).mp h]; rfl
theorem hk_g4 {t : Nat} {x y : Int64} (_ : t ≤ 5) (h : nI t = 4) : (x ||| y) ^^^ (-1) = gL t x y := by rw [show t = 4 from (nI_eq (by omega) (by omega)).mp h]; rfl
theorem hk_go {t : Nat} {x y : Int64} (ht : t ≤ 5) (h : (nI t).toInt < 0 ∨ 4 < (nI t).toInt) : x ^^^ (-1) = gL t x y := by
  rw [nI_toInt (by omega)] at h
  rw [show t = 5 by omega]; rfl
set_option maxHeartbeats 4000000 in
set_option maxRecDepth 100000 in
theorem c0_soundColumn (l : Launch) (D : va_G) (g : hk_G) (ti : Nat) (z : Nat) (v2 : Value) (v3 : Value) (v4 : Value) (v5 : Value) (q1 : Nat) (nc : Nat → Int64) (a : Nat) (t : Nat) (f1 : Nat) (f2 : Nat) (v9 : Value) (ft : Nat → Int32) (fa : Nat → Int32) (fb : Nat → Int32) (n : Nat) (N : Nat) (o : Nat) (nm : Int64) (cd : Nat) (wt : Nat) (j : Nat) (ty : Nat) (pa : Nat) (pb : Nat) (hj : j < 30) (hn : n ≤ 6) (hg : n ≤ j → ft j = nI ty ∧ ty ≤ 5 ∧ fa j = nI pa ∧ pa < 30 ∧ fb j = nI pb ∧ pb < 30) : Met l yX0_soundColumn wsX0_soundColumn ({ frames := 1, cells := 0, slots := 0, locals := 21 }) (va_Pc [.ref z, .int (nI j)] (hk_Ro D g ti [(z, .inr (0, [.ref a, .ref q1, v2, v3, v4, v5])), (q1, .inl (g.2.2.1, 30, .inr (.inl nc))), (a, .inr (1, [.ref t, .ref f1, .ref f2, v9, .int (nI n), .int (nI N), .int (nI o), .long nm, .int (nI cd), .int (nI wt)])), (t, .inl (g.2.1, 30, .inl ft)), (f1, .inl (g.2.1, 30, .inl fa)), (f2, .inl (g.2.1, 30, .inl fb))])) (vp_Sl (fun r => r = if j < n then hk_col j else gL ty (nc pa) (nc pb))) 0 0 (fun _ => False) := by
  refine Met.ofW (cc := cX0_soundColumn) (maxL := 6) (ret := (some .long)) (by decide) rfl ?_
  intro p e s m args below meth c s₁ Bd hml hv
  obtain ⟨rfl, hP, hE⟩ := hv
  have hx := Bd.exec
  have hb := Bd.bytes
  have hr := Bd.returns
  have hts := atoms_spec (ws := wsX0_soundColumn) Bd.pre
  have hown : s.vm.findClass RX0 = some m.cls := findClass_of_methodNamed Bd.named
  have hlocks := Bd.notSynchronized
  have hK := hE.1
  have hi0 : ∀ w ∈ wsX00, w ∈ wsX0_soundColumn := fun w h => List.mem_cons_of_mem _ (List.mem_append_left _ (List.mem_append_right _ h))
  have hi1 : ∀ w ∈ wsX10, w ∈ wsX0_soundColumn := fun w h => List.mem_cons_of_mem _ (List.mem_append_right _ h)
  have hS : va_S (fun _ => False) s.heap s.heap [] := va_S.rf
  have hl := lv_entry ([.ref z, .int (nI j)]) (n := 6) (Nat.le_of_ble_eq_true rfl)
  rw [lg_entry_eq]
  generalize (lg_sl ([.ref z, .int (nI j)]) ++ List.replicate (6 - (lg_sl ([.ref z, .int (nI j)])).length) Slot.unset).toArray = ls at hl ⊢
  have hl : lv_has ls 6 [(0, .ref z), (1, .int (nI j))] := hl
  refine lv_iload_n hx hb dX0_soundColumn_0 rfl (lv_at hl 1 rfl) ?_
  refine lv_if_lt (tgt := 27) hx hb dX0_soundColumn_1 (by decide) (fun c_1 => ?_) (fun c_1 => ?_)
  · have c_1h : nI j < (0 : Int32) := c_1
    exact absurd c_1 (nI_pos (by omega))
  · have c_1h : ¬ nI j < (0 : Int32) := c_1
    refine lv_iload_n hx hb dX0_soundColumn_4 rfl (lv_at hl 1 rfl) ?_
    refine lv_aload_n hx hb dX0_soundColumn_5 rfl (lv_at hl 0 rfl) ?_
    refine va_get (D := D) (ci := 0) (v := .ref a) (C := RX0) (T := TX0) (N := 6) hx hb hts hi0 hown hK hP 0 rfl rfl 0 (by decide) (hts (.fieldLink RX0 27 "SelfCheckingCircuit$Analysis" "circuit" "LSelfCheckingCircuit$Circuit;") (by decide +kernel)) (fun _ h9 => h9) rfl dX0_soundColumn_6 ?_
    refine va_getN (D := D) (ci := 1) (v := .int (nI n)) (C := RX1) (T := TX1) (N := 10) hx hb hts hi1 hown hK hP 2 rfl rfl 4 (by decide) (nf_X0_108 hE.2.1) (fun _ h9 => h9) rfl dX0_soundColumn_9 ?_
    refine lv_icmp_ge (tgt := 27) hx hb dX0_soundColumn_12 (by decide) (fun c_2 => ?_) (fun c_2 => ?_)
    · have c_2h : nI n ≤ nI j := c_2
      refine lv_aload_n hx hb dX0_soundColumn_27 rfl (lv_at hl 0 rfl) ?_
      refine lv_aload_n hx hb dX0_soundColumn_28 rfl (lv_at hl 0 rfl) ?_
      refine va_get (D := D) (ci := 0) (v := .ref a) (C := RX0) (T := TX0) (N := 6) hx hb hts hi0 hown hK hP 0 rfl rfl 0 (by decide) (hts (.fieldLink RX0 27 "SelfCheckingCircuit$Analysis" "circuit" "LSelfCheckingCircuit$Circuit;") (by decide +kernel)) (fun _ h9 => h9) rfl dX0_soundColumn_29 ?_
      refine lv_iload_n hx hb dX0_soundColumn_32 rfl (lv_at hl 1 rfl) ?_
      refine hk_csi (va_runVN (As := [.int (nI j)]) (rest := [.ref z]) ⟨hx, hb, hml, hown, hts⟩ (c1_first l D g ti a (.ref t) (.ref f2) v9 f1 fa (nI n) (nI N) (nI o) nm (nI cd) (nI wt) (nI j) ) ⟨va_cnB 1 hts gX0_soundColumn_X1_first_n114 rfl rfl rfl (nm_X0_114 hE.2.1) (hts (.initialized RX1) (by decide +kernel)) (by decide +kernel) ⟨Nat.le_of_ble_eq_true rfl, Nat.le_of_ble_eq_true rfl⟩, hts (.instanceMethod yX1_first) (by decide +kernel), hts (.selects RX1 yX1_first yX1_first) (by decide +kernel)⟩ (hk_roV hE hP hS 1 rfl rfl [2, 4] rfl rfl) rfl rfl hl.1 rfl (lv_room (Nat.le_of_ble_eq_true rfl)) dX0_soundColumn_33 ⟨Nat.zero_le _, Nat.zero_le _⟩) (fun r_3 hr_4 => ?_)
      subst hr_4
      refine hk_ti (nI pa) ((hk_rd (n := 30) hj (by decide) rfl).trans (hg (hk_ge n c_2)).2.2.1) ?_
      refine hk_csl (va_runV (As := [.int (nI pa)]) (rest := []) ⟨hx, hb, hml, hown, hts⟩ (c0_columnOf l D g ti z (.ref a) v2 v3 v4 v5 q1 nc (nI pa) ) (cwV 1 hts gX0_soundColumn_X0_columnOf rfl rfl rfl (by decide +kernel) ⟨Nat.le_of_ble_eq_true rfl, Nat.le_of_ble_eq_true rfl⟩) (hk_roV hE hP hS 0 rfl rfl [0, 1] rfl rfl) rfl rfl hl.1 rfl (lv_room (Nat.le_of_ble_eq_true rfl)) dX0_soundColumn_36 ⟨Nat.zero_le _, Nat.zero_le _⟩) (fun r_5 hr_6 => ?_)
      subst hr_6
      refine hk_tl (nc pa) (hk_rl (n := 30) (hg (hk_ge n c_2)).2.2.2.1 (by decide) rfl) ?_
      refine lv_lstore_n (lv' := [(2, .long (nc pa)), (0, .ref z), (1, .int (nI j))]) hx hb dX0_soundColumn_39 rfl hl (by decide) rfl (fun ls hl => ?_)
      refine lv_aload_n hx hb dX0_soundColumn_40 rfl (lv_at hl 1 rfl) ?_
      refine lv_aload_n hx hb dX0_soundColumn_41 rfl (lv_at hl 1 rfl) ?_
      refine va_get (D := D) (ci := 0) (v := .ref a) (C := RX0) (T := TX0) (N := 6) hx hb hts hi0 hown hK hP 0 rfl rfl 0 (by decide) (hts (.fieldLink RX0 27 "SelfCheckingCircuit$Analysis" "circuit" "LSelfCheckingCircuit$Circuit;") (by decide +kernel)) (fun _ h9 => h9) rfl dX0_soundColumn_42 ?_
      refine lv_iload_n hx hb dX0_soundColumn_45 rfl (lv_at hl 2 rfl) ?_
      refine hk_csi (va_runVN (As := [.int (nI j)]) (rest := [.ref z]) ⟨hx, hb, hml, hown, hts⟩ (c1_second l D g ti a (.ref t) (.ref f1) v9 f2 fb (nI n) (nI N) (nI o) nm (nI cd) (nI wt) (nI j) ) ⟨va_cnB 1 hts gX0_soundColumn_X1_second_n117 rfl rfl rfl (nm_X0_117 hE.2.1) (hts (.initialized RX1) (by decide +kernel)) (by decide +kernel) ⟨Nat.le_of_ble_eq_true rfl, Nat.le_of_ble_eq_true rfl⟩, hts (.instanceMethod yX1_second) (by decide +kernel), hts (.selects RX1 yX1_second yX1_second) (by decide +kernel)⟩ (hk_roV hE hP hS 1 rfl rfl [2, 5] rfl rfl) rfl rfl hl.1 rfl (lv_room (Nat.le_of_ble_eq_true rfl)) dX0_soundColumn_46 ⟨Nat.zero_le _, Nat.zero_le _⟩) (fun r_7 hr_8 => ?_)
      subst hr_8
      refine hk_ti (nI pb) ((hk_rd (n := 30) hj (by decide) rfl).trans (hg (hk_ge n c_2)).2.2.2.2.1) ?_
      refine hk_csl (va_runV (As := [.int (nI pb)]) (rest := []) ⟨hx, hb, hml, hown, hts⟩ (c0_columnOf l D g ti z (.ref a) v2 v3 v4 v5 q1 nc (nI pb) ) (cwV 1 hts gX0_soundColumn_X0_columnOf rfl rfl rfl (by decide +kernel) ⟨Nat.le_of_ble_eq_true rfl, Nat.le_of_ble_eq_true rfl⟩) (hk_roV hE hP hS 0 rfl rfl [0, 1] rfl rfl) rfl rfl hl.1 rfl (lv_room (Nat.le_of_ble_eq_true rfl)) dX0_soundColumn_49 ⟨Nat.zero_le _, Nat.zero_le _⟩) (fun r_9 hr_10 => ?_)
      subst hr_10
      refine hk_tl (nc pb) (hk_rl (n := 30) (hg (hk_ge n c_2)).2.2.2.2.2 (by decide) rfl) ?_
      refine lv_lstore (lv' := [(4, .long (nc pb)), (2, .long (nc pa)), (0, .ref z), (1, .int (nI j))]) hx hb dX0_soundColumn_52 hl (by decide) rfl (fun ls hl => ?_)
      refine lv_aload_n hx hb dX0_soundColumn_54 rfl (lv_at hl 2 rfl) ?_
      refine va_get (D := D) (ci := 0) (v := .ref a) (C := RX0) (T := TX0) (N := 6) hx hb hts hi0 hown hK hP 0 rfl rfl 0 (by decide) (hts (.fieldLink RX0 27 "SelfCheckingCircuit$Analysis" "circuit" "LSelfCheckingCircuit$Circuit;") (by decide +kernel)) (fun _ h9 => h9) rfl dX0_soundColumn_55 ?_
      refine lv_iload_n hx hb dX0_soundColumn_58 rfl (lv_at hl 3 rfl) ?_
      refine hk_csi (va_runVN (As := [.int (nI j)]) (rest := []) ⟨hx, hb, hml, hown, hts⟩ (c1_type l D g ti a (.ref f1) (.ref f2) v9 t ft (nI n) (nI N) (nI o) nm (nI cd) (nI wt) (nI j) ) ⟨va_cnB 1 hts gX0_soundColumn_X1_type_n120 rfl rfl rfl (nm_X0_120 hE.2.1) (hts (.initialized RX1) (by decide +kernel)) (by decide +kernel) ⟨Nat.le_of_ble_eq_true rfl, Nat.le_of_ble_eq_true rfl⟩, hts (.instanceMethod yX1_type) (by decide +kernel), hts (.selects RX1 yX1_type yX1_type) (by decide +kernel)⟩ (hk_roV hE hP hS 1 rfl rfl [2, 3] rfl rfl) rfl rfl hl.1 rfl (lv_room (Nat.le_of_ble_eq_true rfl)) dX0_soundColumn_59 ⟨Nat.zero_le _, Nat.zero_le _⟩) (fun r_11 hr_12 => ?_)
      subst hr_12
      refine hk_ti (nI ty) ((hk_rd (n := 30) hj (by decide) rfl).trans (hg (hk_ge n c_2)).1) ?_
      rcases hk_sw0_4 (nI ty) with c_14 | c_14 | c_14 | c_14 | c_14 | c_14
      · rw [c_14]
        refine lv_tableIn (tgt := 96) (off := 34) hx hb dX0_soundColumn_62 (by decide) (by decide) rfl (by decide) ?_
        refine lv_lload_n hx hb dX0_soundColumn_96 rfl (lv_at hl 1 rfl) ?_
        refine lv_lload hx hb dX0_soundColumn_97 (lv_at hl 0 rfl) ?_
        refine lv_land hx hb dX0_soundColumn_99 ?_
        exact W.lret (v := (nc pa &&& nc pb)) hx hb hr (fun t ht hW => ⟨_, rfl, by rw [if_neg (Nat.not_lt.mpr (hk_ge n c_2))]; exact hk_g0 (hg (hk_ge n c_2)).2.1 c_14, ht⟩) (fun _ h => by cases h) dX0_soundColumn_100
      · rw [c_14]
        refine lv_tableIn (tgt := 101) (off := 39) hx hb dX0_soundColumn_62 (by decide) (by decide) rfl (by decide) ?_
        refine lv_lload_n hx hb dX0_soundColumn_101 rfl (lv_at hl 1 rfl) ?_
        refine lv_lload hx hb dX0_soundColumn_102 (lv_at hl 0 rfl) ?_
        refine lv_lor hx hb dX0_soundColumn_104 ?_
        exact W.lret (v := (nc pa ||| nc pb)) hx hb hr (fun t ht hW => ⟨_, rfl, by rw [if_neg (Nat.not_lt.mpr (hk_ge n c_2))]; exact hk_g1 (hg (hk_ge n c_2)).2.1 c_14, ht⟩) (fun _ h => by cases h) dX0_soundColumn_105
      · rw [c_14]
        refine lv_tableIn (tgt := 106) (off := 44) hx hb dX0_soundColumn_62 (by decide) (by decide) rfl (by decide) ?_
        refine lv_lload_n hx hb dX0_soundColumn_106 rfl (lv_at hl 1 rfl) ?_
        refine lv_lload hx hb dX0_soundColumn_107 (lv_at hl 0 rfl) ?_
        refine lv_lxor hx hb dX0_soundColumn_109 ?_
        exact W.lret (v := (nc pa ^^^ nc pb)) hx hb hr (fun t ht hW => ⟨_, rfl, by rw [if_neg (Nat.not_lt.mpr (hk_ge n c_2))]; exact hk_g2 (hg (hk_ge n c_2)).2.1 c_14, ht⟩) (fun _ h => by cases h) dX0_soundColumn_110
      · rw [c_14]
        refine lv_tableIn (tgt := 111) (off := 49) hx hb dX0_soundColumn_62 (by decide) (by decide) rfl (by decide) ?_
        refine lv_lload_n hx hb dX0_soundColumn_111 rfl (lv_at hl 1 rfl) ?_
        refine lv_lload hx hb dX0_soundColumn_112 (lv_at hl 0 rfl) ?_
        refine lv_land hx hb dX0_soundColumn_114 ?_
        refine lv_ldc2 (own := RX0) (v := (-1)) hx hb hown (hts (.constantLong RX0 56 (-1)) (by decide +kernel)) dX0_soundColumn_115 ?_
        refine lv_lxor hx hb dX0_soundColumn_118 ?_
        exact W.lret (v := ((nc pa &&& nc pb) ^^^ (-1 : Int64))) hx hb hr (fun t ht hW => ⟨_, rfl, by rw [if_neg (Nat.not_lt.mpr (hk_ge n c_2))]; exact hk_g3 (hg (hk_ge n c_2)).2.1 c_14, ht⟩) (fun _ h => by cases h) dX0_soundColumn_119
      · rw [c_14]
        refine lv_tableIn (tgt := 120) (off := 58) hx hb dX0_soundColumn_62 (by decide) (by decide) rfl (by decide) ?_
        refine lv_lload_n hx hb dX0_soundColumn_120 rfl (lv_at hl 1 rfl) ?_
        refine lv_lload hx hb dX0_soundColumn_121 (lv_at hl 0 rfl) ?_
        refine lv_lor hx hb dX0_soundColumn_123 ?_
        refine lv_ldc2 (own := RX0) (v := (-1)) hx hb hown (hts (.constantLong RX0 56 (-1)) (by decide +kernel)) dX0_soundColumn_124 ?_
        refine lv_lxor hx hb dX0_soundColumn_127 ?_
        exact W.lret (v := ((nc pa ||| nc pb) ^^^ (-1 : Int64))) hx hb hr (fun t ht hW => ⟨_, rfl, by rw [if_neg (Nat.not_lt.mpr (hk_ge n c_2))]; exact hk_g4 (hg (hk_ge n c_2)).2.1 c_14, ht⟩) (fun _ h => by cases h) dX0_soundColumn_128
      · refine lv_tableOut (tgt := 129) hx hb dX0_soundColumn_62 c_14 (by decide) ?_
        refine lv_lload_n hx hb dX0_soundColumn_129 rfl (lv_at hl 1 rfl) ?_
        refine lv_ldc2 (own := RX0) (v := (-1)) hx hb hown (hts (.constantLong RX0 56 (-1)) (by decide +kernel)) dX0_soundColumn_130 ?_
        refine lv_lxor hx hb dX0_soundColumn_133 ?_
        exact W.lret (v := (nc pa ^^^ (-1 : Int64))) hx hb hr (fun t ht hW => ⟨_, rfl, by rw [if_neg (Nat.not_lt.mpr (hk_ge n c_2))]; exact hk_go (hg (hk_ge n c_2)).2.1 c_14, ht⟩) (fun _ h => by cases h) dX0_soundColumn_134
    · have c_2h : ¬ nI n ≤ nI j := c_2
      refine lv_iload_n hx hb dX0_soundColumn_15 rfl (lv_at hl 1 rfl) ?_
      refine lv_bipush (v := 6) hx hb dX0_soundColumn_16 (by decide) ?_
      refine lv_icmp_ge (tgt := 27) hx hb dX0_soundColumn_18 (by decide) (fun c_15 => ?_) (fun c_15 => ?_)
      · have c_15h : (6 : Int32) ≤ nI j := c_15
        exact absurd (hk_ge 6 c_15) (by have := hk_nge n c_2; omega)
      · have c_15h : ¬ (6 : Int32) ≤ nI j := c_15
        refine va_gets (A := fun _ => False) hx hb hE.2.2.1 hS hown (hts (.fieldLink RX0 111 "SelfCheckingCircuit$Analysis" "INPUT_COLUMNS" "[J") (by decide +kernel)) (fun _ h9 => h9) dX0_soundColumn_21 ?_
        refine lv_iload_n hx hb dX0_soundColumn_24 rfl (lv_at hl 1 rfl) ?_
        refine va_tl (v := .long (hk_col (nI j).toNatClampNeg)) hx hb hE.2.2.2 hS (vp_in_nI (N := 6) (by have := hk_nge n c_2; omega) (by decide)) rfl dX0_soundColumn_25 ?_
        exact W.lret (v := (hk_col (nI j).toNatClampNeg)) hx hb hr (fun t ht hW => ⟨_, rfl, by rw [if_pos (hk_nge n c_2), nI_clamp (by omega)], ht⟩) (fun _ h => by cases h) dX0_soundColumn_26
set_option maxHeartbeats 4000000 in
set_option maxRecDepth 100000 in
theorem c0_toldDigit (l : Launch) (D : va_G) (g : hk_G) (ti : Nat) (z : Nat) (v0 : Value) (v1 : Value) (v3 : Value) (v4 : Value) (v5 : Value) (q2 : Nat) (oc : Nat → Int64) (k : Nat) (o : Nat) (hk : k < 100) (ho : o ≤ 6) : Met l yX0_toldDigit wsX0_toldDigit ({ frames := 0, cells := 0, slots := 0, locals := 0 }) (va_Pc [.ref z, .int (nI k), .int (nI o)] (hk_Ro D g ti [(z, .inr (0, [v0, v1, .ref q2, v3, v4, v5])), (q2, .inl (g.2.2.1, 6, .inr (.inl oc)))])) (vp_Sl (fun r => r = if k < o then oc k else 0)) 0 0 (fun _ => False) := by
  refine Met.ofW (cc := cX0_toldDigit) (maxL := 3) (ret := (some .long)) (by decide) rfl ?_
  intro p e s m args below meth c s₁ Bd hml hv
  obtain ⟨rfl, hP, hE⟩ := hv
  have hx := Bd.exec
  have hb := Bd.bytes
  have hr := Bd.returns
  have hts := atoms_spec (ws := wsX0_toldDigit) Bd.pre
  have hown : s.vm.findClass RX0 = some m.cls := findClass_of_methodNamed Bd.named
  have hlocks := Bd.notSynchronized
  have hK := hE.1
  have hi0 : ∀ w ∈ wsX00, w ∈ wsX0_toldDigit := fun w h => List.mem_cons_of_mem _ (List.mem_append_right _ h)
  have hS : va_S (fun _ => False) s.heap s.heap [] := va_S.rf
  have hl := lv_entry ([.ref z, .int (nI k), .int (nI o)]) (n := 3) (Nat.le_of_ble_eq_true rfl)
  rw [lg_entry_eq]
  generalize (lg_sl ([.ref z, .int (nI k), .int (nI o)]) ++ List.replicate (3 - (lg_sl ([.ref z, .int (nI k), .int (nI o)])).length) Slot.unset).toArray = ls at hl ⊢
  have hl : lv_has ls 3 [(0, .ref z), (1, .int (nI k)), (2, .int (nI o))] := hl
  refine lv_iload_n hx hb dX0_toldDigit_0 rfl (lv_at hl 1 rfl) ?_
  refine lv_if_lt (tgt := 15) hx hb dX0_toldDigit_1 (by decide) (fun c_1 => ?_) (fun c_1 => ?_)
  · have c_1h : nI k < (0 : Int32) := c_1
    exact absurd c_1 (nI_pos (by omega))
  · have c_1h : ¬ nI k < (0 : Int32) := c_1
    refine lv_iload_n hx hb dX0_toldDigit_4 rfl (lv_at hl 1 rfl) ?_
    refine lv_iload_n hx hb dX0_toldDigit_5 rfl (lv_at hl 2 rfl) ?_
    refine lv_icmp_ge (tgt := 15) hx hb dX0_toldDigit_6 (by decide) (fun c_2 => ?_) (fun c_2 => ?_)
    · have c_2h : nI o ≤ nI k := c_2
      refine lv_lconst (v := 0) hx hb dX0_toldDigit_15 (by decide) ?_
      exact W.lret (v := 0) hx hb hr (fun t ht hW => ⟨_, rfl, by rw [if_neg (Nat.not_lt.mpr (hk_ge o c_2))], ht⟩) (fun _ h => by cases h) dX0_toldDigit_16
    · have c_2h : ¬ nI o ≤ nI k := c_2
      refine lv_iload_n hx hb dX0_toldDigit_9 rfl (lv_at hl 1 rfl) ?_
      refine lv_bipush (v := 6) hx hb dX0_toldDigit_10 (by decide) ?_
      refine lv_icmp_lt (tgt := 17) hx hb dX0_toldDigit_12 (by decide) (fun c_3 => ?_) (fun c_3 => ?_)
      · have c_3h : nI k < (6 : Int32) := c_3
        refine lv_aload_n hx hb dX0_toldDigit_17 rfl (lv_at hl 0 rfl) ?_
        refine va_get (D := D) (ci := 0) (v := .ref q2) (C := RX0) (T := TX0) (N := 6) hx hb hts hi0 hown hK hP 0 rfl rfl 2 (by decide) (hts (.fieldLink RX0 15 "SelfCheckingCircuit$Analysis" "outputColumns" "[J") (by decide +kernel)) (fun _ h9 => h9) rfl dX0_toldDigit_18 ?_
        refine lv_iload_n hx hb dX0_toldDigit_21 rfl (lv_at hl 1 rfl) ?_
        refine va_lald hx hb hK hP 1 2 rfl rfl (vp_in_nI (N := 6) (by have := hk_nge o c_2; omega) (by decide)) dX0_toldDigit_22 ?_
        refine hk_tl (oc k) (congrArg oc (nI_clamp (by omega))) ?_
        exact W.lret (v := (oc k)) hx hb hr (fun t ht hW => ⟨_, rfl, by rw [if_pos (hk_nge o c_2)], ht⟩) (fun _ h => by cases h) dX0_toldDigit_23
      · have c_3h : ¬ nI k < (6 : Int32) := c_3
        exact absurd (nI_lt (b := 6) (by have := hk_nge o c_2; omega) (by decide)) c_3
set_option maxHeartbeats 4000000 in
set_option maxRecDepth 100000 in
theorem c0_wordInColumns (l : Launch) (D : va_G) (g : hk_G) (ti : Nat) (z : Nat) (v1 : Value) (v3 : Value) (v4 : Value) (v5 : Value) (q2 : Nat) (oc : Nat → Int64) (a : Nat) (f0 : Value) (f1 : Value) (f2 : Value) (f3 : Value) (n : Nat) (N : Nat) (o : Nat) (nm : Int64) (cd : Nat) (wt : Nat) (w : Nat) (hw : w < 64) (ho : o ≤ 6) : Met l yX0_wordInColumns wsX0_wordInColumns ({ frames := 1, cells := 0, slots := 0, locals := 22 }) (va_Pc [.ref z, .int (nI w)] (hk_Ro D g ti [(z, .inr (0, [.ref a, v1, .ref q2, v3, v4, v5])), (q2, .inl (g.2.2.1, 6, .inr (.inl oc))), (a, .inr (1, [f0, f1, f2, f3, .int (nI n), .int (nI N), .int (nI o), .long nm, .int (nI cd), .int (nI wt)]))])) (vp_Si (fun r => r = nI (wd (fun k => lb (oc k) w) o))) 0 0 (fun _ => False) := by
  refine Met.ofW (cc := cX0_wordInColumns) (maxL := 4) (ret := (some .int)) (by decide) rfl ?_
  intro p e s m args below meth c s₁ Bd hml hv
  obtain ⟨rfl, hP, hE⟩ := hv
  have hx := Bd.exec
  have hb := Bd.bytes
  have hr := Bd.returns
  have hts := atoms_spec (ws := wsX0_wordInColumns) Bd.pre
  have hown : s.vm.findClass RX0 = some m.cls := findClass_of_methodNamed Bd.named
  have hlocks := Bd.notSynchronized
  have hK := hE.1
  have hi0 : ∀ w ∈ wsX00, w ∈ wsX0_wordInColumns := fun w h => List.mem_cons_of_mem _ (List.mem_append_left _ (List.mem_append_right _ h))
  have hi1 : ∀ w ∈ wsX10, w ∈ wsX0_wordInColumns := fun w h => List.mem_cons_of_mem _ (List.mem_append_right _ h)
  have hS : va_S (fun _ => False) s.heap s.heap [] := va_S.rf
  have hl := lv_entry ([.ref z, .int (nI w)]) (n := 4) (Nat.le_of_ble_eq_true rfl)
  rw [lg_entry_eq]
  generalize (lg_sl ([.ref z, .int (nI w)]) ++ List.replicate (4 - (lg_sl ([.ref z, .int (nI w)])).length) Slot.unset).toArray = ls at hl ⊢
  have hl : lv_has ls 4 [(0, .ref z), (1, .int (nI w))] := hl
  refine lv_iconst (v := 0) hx hb dX0_wordInColumns_0 (by decide) ?_
  refine lv_istore_n (lv' := [(2, .int 0), (0, .ref z), (1, .int (nI w))]) hx hb dX0_wordInColumns_1 rfl hl (by decide) rfl (fun ls hl => ?_)
  refine lv_iconst (v := 0) hx hb dX0_wordInColumns_2 (by decide) ?_
  refine lv_istore_n (lv' := [(3, .int 0), (2, .int 0), (0, .ref z), (1, .int (nI w))]) hx hb dX0_wordInColumns_3 rfl hl (by decide) rfl (fun ls hl => ?_)
  have loop4 : ∀ (n : Nat) (i : Nat), (o - i) < n → (i ≤ o) → ∀ ls : Array Slot, lv_has ls 4 [(3, .int (nI i)), (2, .int (nI (wd (fun k => lb (oc k) w) i))), (0, .ref z), (1, .int (nI w))] → W p l e (headSpec wsX0_wordInColumns ({ frames := 1, cells := 0, slots := 0, locals := 22 })).room s m ([.ref z, .int (nI w)] : List Value).toArray below meth c s.heap [] 0 0 (MQ below (vp_Si (fun r => r = nI (wd (fun k => lb (oc k) w) o))) ([.ref z, .int (nI w)] : List Value).toArray s 0 0 (fun _ => False)) (F0 m 4 ls []) := by
    intro n
    induction n with
    | zero => intro i hm; exact absurd hm (Nat.not_lt_zero _)
    | succ n ih_4 =>
      intro i hm_4 hi ls hl
      refine lv_iload_n hx hb dX0_wordInColumns_4 rfl (lv_at hl 0 rfl) ?_
      refine lv_aload_n hx hb dX0_wordInColumns_5 rfl (lv_at hl 2 rfl) ?_
      refine va_get (D := D) (ci := 0) (v := .ref a) (C := RX0) (T := TX0) (N := 6) hx hb hts hi0 hown hK hP 0 rfl rfl 0 (by decide) (hts (.fieldLink RX0 27 "SelfCheckingCircuit$Analysis" "circuit" "LSelfCheckingCircuit$Circuit;") (by decide +kernel)) (fun _ h9 => h9) rfl dX0_wordInColumns_6 ?_
      refine va_getN (D := D) (ci := 1) (v := .int (nI o)) (C := RX1) (T := TX1) (N := 10) hx hb hts hi1 hown hK hP 2 rfl rfl 6 (by decide) (nf_X0_64 hE.2.1) (fun _ h9 => h9) rfl dX0_wordInColumns_9 ?_
      refine lv_icmp_ge (tgt := 42) hx hb dX0_wordInColumns_12 (by decide) (fun c_1 => ?_) (fun c_1 => ?_)
      · have c_1h : nI o ≤ nI i := c_1
        refine lv_iload_n hx hb dX0_wordInColumns_42 rfl (lv_at hl 1 rfl) ?_
        exact W.iret (v := nI (wd (fun k => lb (oc k) w) i)) hx hb hr (fun t ht hW => ⟨_, rfl, by rw [show i = o by have := hk_ge o c_1; omega], ht⟩) (fun _ h => by cases h) dX0_wordInColumns_43
      · have c_1h : ¬ nI o ≤ nI i := c_1
        refine lv_iload_n hx hb dX0_wordInColumns_15 rfl (lv_at hl 0 rfl) ?_
        refine lv_bipush (v := 6) hx hb dX0_wordInColumns_16 (by decide) ?_
        refine lv_icmp_ge (tgt := 42) hx hb dX0_wordInColumns_18 (by decide) (fun c_2 => ?_) (fun c_2 => ?_)
        · have c_2h : (6 : Int32) ≤ nI i := c_2
          exact absurd (hk_ge 6 c_2) (by have := hk_nge o c_1; omega)
        · have c_2h : ¬ (6 : Int32) ≤ nI i := c_2
          refine lv_iload_n hx hb dX0_wordInColumns_21 rfl (lv_at hl 1 rfl) ?_
          refine lv_aload_n hx hb dX0_wordInColumns_22 rfl (lv_at hl 2 rfl) ?_
          refine va_get (D := D) (ci := 0) (v := .ref q2) (C := RX0) (T := TX0) (N := 6) hx hb hts hi0 hown hK hP 0 rfl rfl 2 (by decide) (hts (.fieldLink RX0 15 "SelfCheckingCircuit$Analysis" "outputColumns" "[J") (by decide +kernel)) (fun _ h9 => h9) rfl dX0_wordInColumns_23 ?_
          refine lv_iload_n hx hb dX0_wordInColumns_26 rfl (lv_at hl 0 rfl) ?_
          refine va_lald hx hb hK hP 1 2 rfl rfl (vp_in_nI (N := 6) (by have := hk_nge o c_1; omega) (by decide)) dX0_wordInColumns_27 ?_
          refine hk_tl (oc i) (congrArg oc (nI_clamp (by omega))) ?_
          refine lv_iload_n hx hb dX0_wordInColumns_28 rfl (lv_at hl 3 rfl) ?_
          refine hk_csi (va_runSN (As := [.long (oc i), .int (nI w)]) (rest := [.int (nI (wd (fun k => lb (oc k) w) i))]) ⟨hx, hb, hml, hown, hts⟩ (c5_bit l D g ti (oc i) w hw) ⟨va_cnB 2 hts gX0_wordInColumns_X5_bit_n68 rfl rfl rfl (nm_X0_68 hE.2.1) (hts (.initialized RX5) (by decide +kernel)) (by decide +kernel) ⟨Nat.le_of_ble_eq_true rfl, Nat.le_of_ble_eq_true rfl⟩, hts (.static yX5_bit) (by decide +kernel), trivial⟩ (hk_roS hE hP hS [] rfl) rfl rfl hl.1 rfl (lv_room (Nat.le_of_ble_eq_true rfl)) dX0_wordInColumns_29 ⟨Nat.zero_le _, Nat.zero_le _⟩) (fun r_3 hr_4 => ?_)
          subst hr_4
          refine lv_iload_n hx hb dX0_wordInColumns_32 rfl (lv_at hl 0 rfl) ?_
          refine lv_ishl hx hb dX0_wordInColumns_33 ?_
          refine lv_ior hx hb dX0_wordInColumns_34 ?_
          refine hk_ti (nI (wd (fun k => lb (oc k) w) (i + 1))) (wd_orI i (by have := hk_nge o c_1; omega) _ (Nat.lt_of_lt_of_le (wd_lt _ i) (Nat.pow_le_pow_right (by decide) (by have := hk_nge o c_1; omega : i ≤ 6))) (wd_lt _ i) _) ?_
          refine lv_istore_n (lv' := [(2, .int (nI (wd (fun k => lb (oc k) w) (i + 1)))), (3, .int (nI i)), (0, .ref z), (1, .int (nI w))]) hx hb dX0_wordInColumns_35 rfl hl (by decide) rfl (fun ls hl => ?_)
          refine lv_iinc (v := (nI (i + 1))) (lv' := [(3, .int (nI (i + 1))), (2, .int (nI (wd (fun k => lb (oc k) w) (i + 1)))), (0, .ref z), (1, .int (nI w))]) hx hb dX0_wordInColumns_36 hl (k := 1) rfl (nI_1 i) (by decide) rfl (fun ls hl => ?_)
          refine lv_goto (tgt := 4) hx hb dX0_wordInColumns_39 (by decide) ?_
          have hlt : i < o := hk_nge o c_1
          exact ih_4 (i + 1) (by omega) (by omega) _ (lv_sub hl [0, 1, 2, 3] rfl)
  exact loop4 _ 0 (Nat.lt_succ_self _) (Nat.zero_le _) _ (lv_sub hl [0, 1, 2, 3] rfl)
