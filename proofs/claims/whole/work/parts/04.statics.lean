set_option maxHeartbeats 4000000 in
set_option maxRecDepth 100000 in
theorem c5_bit (l : Launch) (D : va_G) (g : hk_G) (ti : Nat) (set : Int64) (w : Nat) (hw : w < 64) : Met l yX5_bit wsX5_bit ({ frames := 0, cells := 0, slots := 0, locals := 0 }) (va_Pc [.long set, .int (nI w)] (hk_Ro D g ti [])) (vp_Si (fun r => r = bI (lb set w))) 0 0 (fun _ => False) := by
  refine Met.ofW (cc := cX5_bit) (maxL := 3) (ret := (some .int)) (by decide) rfl ?_
  intro p e s m args below meth c s₁ B hml hv
  obtain ⟨rfl, hP, hE⟩ := hv
  have hx := B.exec
  have hb := B.bytes
  have hr := B.returns
  have hts := atoms_spec (ws := wsX5_bit) B.pre
  have hown : s.vm.findClass RX5 = some m.cls := findClass_of_methodNamed B.named
  have hlocks := B.notSynchronized
  have hK := hE.1
  have hS : va_S (fun _ => False) s.heap s.heap [] := va_S.rf
  have hl := lv_entry ([.long set, .int (nI w)]) (n := 3) (Nat.le_of_ble_eq_true rfl)
  rw [lg_entry_eq]
  generalize (lg_sl ([.long set, .int (nI w)]) ++ List.replicate (3 - (lg_sl ([.long set, .int (nI w)])).length) Slot.unset).toArray = ls at hl ⊢
  have hl : lv_has ls 3 [(0, .long set), (2, .int (nI w))] := hl
  refine lv_lload_n hx hb dX5_bit_0 rfl (lv_at hl 0 rfl) ?_
  refine lv_iload_n hx hb dX5_bit_1 rfl (lv_at hl 1 rfl) ?_
  refine lv_lushr hx hb dX5_bit_2 rfl ?_
  refine lv_l2i hx hb dX5_bit_3 rfl ?_
  refine lv_iconst (v := 1) hx hb dX5_bit_4 (by decide) ?_
  refine lv_iand hx hb dX5_bit_5 ?_
  exact W.iret (v := (((set.toUInt64 >>> ((nI w).toInt64.toUInt64 &&& Int64.toUInt64 63)).toInt64).toInt32 &&& (1 : Int32))) hx hb hr (fun t ht hW => ⟨_, rfl, lb_bit set hw, ht⟩) (fun _ h => by cases h) dX5_bit_6
set_option maxHeartbeats 4000000 in
set_option maxRecDepth 100000 in
theorem c5_operandsOfType (l : Launch) (D : va_G) (g : hk_G) (ti : Nat) (t : Int32)  : Met l yX5_operandsOfType wsX5_operandsOfType ({ frames := 0, cells := 0, slots := 0, locals := 0 }) (va_Pc [.int t] (hk_Ro D g ti [])) (vp_Si (fun r => r = if t = 6 then 0 else if t = 5 then 1 else 2)) 0 0 (fun _ => False) := by
  refine Met.ofW (cc := cX5_operandsOfType) (maxL := 1) (ret := (some .int)) (by decide) rfl ?_
  intro p e s m args below meth c s₁ B hml hv
  obtain ⟨rfl, hP, hE⟩ := hv
  have hx := B.exec
  have hb := B.bytes
  have hr := B.returns
  have hts := atoms_spec (ws := wsX5_operandsOfType) B.pre
  have hown : s.vm.findClass RX5 = some m.cls := findClass_of_methodNamed B.named
  have hlocks := B.notSynchronized
  have hK := hE.1
  have hS : va_S (fun _ => False) s.heap s.heap [] := va_S.rf
  have hl := lv_entry ([.int t]) (n := 1) (Nat.le_of_ble_eq_true rfl)
  rw [lg_entry_eq]
  generalize (lg_sl ([.int t]) ++ List.replicate (1 - (lg_sl ([.int t])).length) Slot.unset).toArray = ls at hl ⊢
  have hl : lv_has ls 1 [(0, .int t)] := hl
  refine lv_iload_n hx hb dX5_operandsOfType_0 rfl (lv_at hl 0 rfl) ?_
  refine lv_bipush (v := 6) hx hb dX5_operandsOfType_1 (by decide) ?_
  refine lv_icmp_ne (tgt := 8) hx hb dX5_operandsOfType_3 (by decide) (fun c_1 => ?_) (fun c_1 => ?_)
  · have c_1h : ¬ t = (6 : Int32) := c_1
    refine lv_iload_n hx hb dX5_operandsOfType_8 rfl (lv_at hl 0 rfl) ?_
    refine lv_iconst (v := 5) hx hb dX5_operandsOfType_9 (by decide) ?_
    refine lv_icmp_ne (tgt := 17) hx hb dX5_operandsOfType_10 (by decide) (fun c_2 => ?_) (fun c_2 => ?_)
    · have c_2h : ¬ t = (5 : Int32) := c_2
      refine lv_iconst (v := 2) hx hb dX5_operandsOfType_17 (by decide) ?_
      exact W.iret (v := 2) hx hb hr (fun t ht hW => ⟨_, rfl, by rw [if_neg c_1, if_neg c_2], ht⟩) (fun _ h => by cases h) dX5_operandsOfType_18
    · have c_2h : t = (5 : Int32) := c_2
      refine lv_iconst (v := 1) hx hb dX5_operandsOfType_13 (by decide) ?_
      refine lv_goto (tgt := 18) hx hb dX5_operandsOfType_14 (by decide) ?_
      exact W.iret (v := 1) hx hb hr (fun t ht hW => ⟨_, rfl, by rw [if_neg c_1, if_pos c_2], ht⟩) (fun _ h => by cases h) dX5_operandsOfType_18
  · have c_1h : t = (6 : Int32) := c_1
    refine lv_iconst (v := 0) hx hb dX5_operandsOfType_6 (by decide) ?_
    exact W.iret (v := 0) hx hb hr (fun t ht hW => ⟨_, rfl, by rw [if_pos c_1], ht⟩) (fun _ h => by cases h) dX5_operandsOfType_7
set_option maxHeartbeats 4000000 in
set_option maxRecDepth 100000 in
theorem c5_least (l : Launch) (D : va_G) (g : hk_G) (ti : Nat) (set : Int64)  : Met l yX5_least wsX5_least ({ frames := 1, cells := 0, slots := 0, locals := 22 }) (va_Pc [.long set] (hk_Ro D g ti [])) (vp_Si (fun r => isF (lb set) 64 r)) 0 0 (fun _ => False) := by
  refine Met.ofW (cc := cX5_least) (maxL := 3) (ret := (some .int)) (by decide) rfl ?_
  intro p e s m args below meth c s₁ B hml hv
  obtain ⟨rfl, hP, hE⟩ := hv
  have hx := B.exec
  have hb := B.bytes
  have hr := B.returns
  have hts := atoms_spec (ws := wsX5_least) B.pre
  have hown : s.vm.findClass RX5 = some m.cls := findClass_of_methodNamed B.named
  have hlocks := B.notSynchronized
  have hK := hE.1
  have hS : va_S (fun _ => False) s.heap s.heap [] := va_S.rf
  have hl := lv_entry ([.long set]) (n := 3) (Nat.le_of_ble_eq_true rfl)
  rw [lg_entry_eq]
  generalize (lg_sl ([.long set]) ++ List.replicate (3 - (lg_sl ([.long set])).length) Slot.unset).toArray = ls at hl ⊢
  have hl : lv_has ls 3 [(0, .long set)] := hl
  refine lv_iconst (v := 0) hx hb dX5_least_0 (by decide) ?_
  refine lv_istore_n (lv' := [(2, .int 0), (0, .long set)]) hx hb dX5_least_1 rfl hl (by decide) rfl (fun ls hl => ?_)
  have loop2 : ∀ (n : Nat) (i : Nat), (64 - i) < n → (i ≤ 64) → (∀ k, k < i → lb set k = false) → ∀ ls : Array Slot, lv_has ls 3 [(2, .int (nI i)), (0, .long set)] → W p l e (headSpec wsX5_least ({ frames := 1, cells := 0, slots := 0, locals := 22 })).room s m ([.long set] : List Value).toArray below meth c s.heap [] 0 0 (MQ below (vp_Si (fun r => isF (lb set) 64 r)) ([.long set] : List Value).toArray s 0 0 (fun _ => False)) (F0 m 2 ls []) := by
    intro n
    induction n with
    | zero => intro i hm; exact absurd hm (Nat.not_lt_zero _)
    | succ n ih_2 =>
      intro i hm_2 hi hno ls hl
      refine lv_iload_n hx hb dX5_least_2 rfl (lv_at hl 0 rfl) ?_
      refine lv_bipush (v := 64) hx hb dX5_least_3 (by decide) ?_
      refine lv_icmp_ge (tgt := 25) hx hb dX5_least_5 (by decide) (fun c_1 => ?_) (fun c_1 => ?_)
      · have c_1h : (64 : Int32) ≤ nI i := c_1
        refine lv_bipush (v := (-104)) hx hb dX5_least_25 (by decide) ?_
        exact W.iret (v := (-104)) hx hb hr (fun t ht hW => ⟨_, rfl, Or.inr ⟨fun k hk => hno k (by have := hk_ge 64 c_1; omega), rfl⟩, ht⟩) (fun _ h => by cases h) dX5_least_27
      · have c_1h : ¬ (64 : Int32) ≤ nI i := c_1
        refine lv_lload_n hx hb dX5_least_8 rfl (lv_at hl 1 rfl) ?_
        refine lv_iload_n hx hb dX5_least_9 rfl (lv_at hl 0 rfl) ?_
        refine hk_csi (va_runS (As := [.long set, .int (nI i)]) (rest := []) ⟨hx, hb, hml, hown, hts⟩ (c5_bit l D g ti set i (hk_nge 64 c_1)) (va_cwS 2 hts gX5_least_X5_bit rfl rfl rfl (by decide +kernel) ⟨Nat.le_of_ble_eq_true rfl, Nat.le_of_ble_eq_true rfl⟩) (hk_roS hE hP hS [] rfl) rfl rfl hl.1 rfl (lv_room (Nat.le_of_ble_eq_true rfl)) dX5_least_10 ⟨Nat.zero_le _, Nat.zero_le _⟩) (fun r_2 hr_3 => ?_)
        subst hr_3
        refine lv_iconst (v := 1) hx hb dX5_least_13 (by decide) ?_
        refine lv_icmp_ne (tgt := 19) hx hb dX5_least_14 (by decide) (fun c_4 => ?_) (fun c_4 => ?_)
        · have c_4h : ¬ (bI (lb set i)) = (1 : Int32) := c_4
          refine lv_iinc (v := (nI (i + 1))) (lv' := [(2, .int (nI (i + 1))), (0, .long set)]) hx hb dX5_least_19 hl (k := 0) rfl (nI_1 i) (by decide) rfl (fun ls hl => ?_)
          refine lv_goto (tgt := 2) hx hb dX5_least_22 (by decide) ?_
          have hlt : i < 64 := hk_nge 64 c_1
          exact ih_2 (i + 1) (by omega) (by omega) (fun k hk => (Nat.lt_succ_iff_lt_or_eq.mp hk).elim (hno k) (fun e => e ▸ bI_n1 c_4)) _ (lv_sub hl [0, 1] rfl)
        · have c_4h : (bI (lb set i)) = (1 : Int32) := c_4
          refine lv_iload_n hx hb dX5_least_17 rfl (lv_at hl 0 rfl) ?_
          exact W.iret (v := nI i) hx hb hr (fun t ht hW => ⟨_, rfl, Or.inl ⟨i, hk_nge 64 c_1, bI_1.mp c_4, hno, rfl⟩, ht⟩) (fun _ h => by cases h) dX5_least_18
  exact loop2 _ 0 (Nat.lt_succ_self _) (Nat.zero_le _) (fun _ h => absurd h (Nat.not_lt_zero _)) _ (lv_sub hl [0, 1] rfl)
set_option maxHeartbeats 4000000 in
set_option maxRecDepth 100000 in
theorem c5_coversOther (l : Launch) (D : va_G) (g : hk_G) (ti : Nat) (u : Nat) (set : Int64) (hu : u < 64) : Met l yX5_coversOther wsX5_coversOther ({ frames := 1, cells := 0, slots := 0, locals := 22 }) (va_Pc [.int (nI u), .long set] (hk_Ro D g ti [])) (vp_Si (fun r => r = if (∃ k, k < u ∧ lb set k = true ∧ cov u k = true) then 1 else 0)) 0 0 (fun _ => False) := by
  refine Met.ofW (cc := cX5_coversOther) (maxL := 4) (ret := (some .boolean)) (by decide) rfl ?_
  intro p e s m args below meth c s₁ B hml hv
  obtain ⟨rfl, hP, hE⟩ := hv
  have hx := B.exec
  have hb := B.bytes
  have hr := B.returns
  have hts := atoms_spec (ws := wsX5_coversOther) B.pre
  have hown : s.vm.findClass RX5 = some m.cls := findClass_of_methodNamed B.named
  have hlocks := B.notSynchronized
  have hK := hE.1
  have hS : va_S (fun _ => False) s.heap s.heap [] := va_S.rf
  have hl := lv_entry ([.int (nI u), .long set]) (n := 4) (Nat.le_of_ble_eq_true rfl)
  rw [lg_entry_eq]
  generalize (lg_sl ([.int (nI u), .long set]) ++ List.replicate (4 - (lg_sl ([.int (nI u), .long set])).length) Slot.unset).toArray = ls at hl ⊢
  have hl : lv_has ls 4 [(0, .int (nI u)), (1, .long set)] := hl
  refine lv_iconst (v := 0) hx hb dX5_coversOther_0 (by decide) ?_
  refine lv_istore_n (lv' := [(3, .int 0), (0, .int (nI u)), (1, .long set)]) hx hb dX5_coversOther_1 rfl hl (by decide) rfl (fun ls hl => ?_)
  have loop2 : ∀ (n : Nat) (i : Nat), (u - i) < n → (i ≤ u) → (∀ k, k < i → ¬ (lb set k = true ∧ cov u k = true)) → ∀ ls : Array Slot, lv_has ls 4 [(3, .int (nI i)), (0, .int (nI u)), (1, .long set)] → W p l e (headSpec wsX5_coversOther ({ frames := 1, cells := 0, slots := 0, locals := 22 })).room s m ([.int (nI u), .long set] : List Value).toArray below meth c s.heap [] 0 0 (MQ below (vp_Si (fun r => r = if (∃ k, k < u ∧ lb set k = true ∧ cov u k = true) then 1 else 0)) ([.int (nI u), .long set] : List Value).toArray s 0 0 (fun _ => False)) (F0 m 2 ls []) := by
    intro n
    induction n with
    | zero => intro i hm; exact absurd hm (Nat.not_lt_zero _)
    | succ n ih_2 =>
      intro i hm_2 hi hno ls hl
      refine lv_iload_n hx hb dX5_coversOther_2 rfl (lv_at hl 0 rfl) ?_
      refine lv_iload_n hx hb dX5_coversOther_3 rfl (lv_at hl 1 rfl) ?_
      refine lv_icmp_ge (tgt := 32) hx hb dX5_coversOther_4 (by decide) (fun c_1 => ?_) (fun c_1 => ?_)
      · have c_1h : nI u ≤ nI i := c_1
        refine lv_iconst (v := 0) hx hb dX5_coversOther_32 (by decide) ?_
        exact W.zret (v := 0) hx hb hr (hk_z0) (fun t ht hW => ⟨_, rfl, by rw [if_neg]; rintro ⟨k, hk, h1, h2⟩; exact hno k (by have := hk_ge u c_1; omega) ⟨h1, h2⟩, ht⟩) (fun _ h => by cases h) dX5_coversOther_33
      · have c_1h : ¬ nI u ≤ nI i := c_1
        refine lv_lload_n hx hb dX5_coversOther_7 rfl (lv_at hl 2 rfl) ?_
        refine lv_iload_n hx hb dX5_coversOther_8 rfl (lv_at hl 0 rfl) ?_
        refine hk_csi (va_runS (As := [.long set, .int (nI i)]) (rest := []) ⟨hx, hb, hml, hown, hts⟩ (c5_bit l D g ti set i (by have := hk_nge u c_1; omega)) (va_cwS 2 hts gX5_coversOther_X5_bit rfl rfl rfl (by decide +kernel) ⟨Nat.le_of_ble_eq_true rfl, Nat.le_of_ble_eq_true rfl⟩) (hk_roS hE hP hS [] rfl) rfl rfl hl.1 rfl (lv_room (Nat.le_of_ble_eq_true rfl)) dX5_coversOther_9 ⟨Nat.zero_le _, Nat.zero_le _⟩) (fun r_2 hr_3 => ?_)
        subst hr_3
        refine lv_iconst (v := 1) hx hb dX5_coversOther_12 (by decide) ?_
        refine lv_icmp_ne (tgt := 26) hx hb dX5_coversOther_13 (by decide) (fun c_4 => ?_) (fun c_4 => ?_)
        · have c_4h : ¬ (bI (lb set i)) = (1 : Int32) := c_4
          refine lv_iinc (v := (nI (i + 1))) (lv' := [(3, .int (nI (i + 1))), (0, .int (nI u)), (1, .long set)]) hx hb dX5_coversOther_26 hl (k := 0) rfl (nI_1 i) (by decide) rfl (fun ls hl => ?_)
          refine lv_goto (tgt := 2) hx hb dX5_coversOther_29 (by decide) ?_
          have hlt : i < u := hk_nge u c_1
          exact ih_2 (i + 1) (by omega) (by omega) (fun k hk => (Nat.lt_succ_iff_lt_or_eq.mp hk).elim (hno k) (fun e => by rw [e]; exact fun h => absurd h.1 (by rw [bI_n1 c_4]; decide))) _ (lv_sub hl [0, 1, 2] rfl)
        · have c_4h : (bI (lb set i)) = (1 : Int32) := c_4
          refine lv_iload_n hx hb dX5_coversOther_16 rfl (lv_at hl 0 rfl) ?_
          refine lv_iload_n hx hb dX5_coversOther_17 rfl (lv_at hl 1 rfl) ?_
          refine lv_iconst (v := (-1)) hx hb dX5_coversOther_18 (by decide) ?_
          refine lv_ixor hx hb dX5_coversOther_19 ?_
          refine lv_iand hx hb dX5_coversOther_20 ?_
          refine lv_if_ne (tgt := 26) hx hb dX5_coversOther_21 (by decide) (fun c_5 => ?_) (fun c_5 => ?_)
          · have c_5h : ¬ (nI i &&& (nI u ^^^ (-1 : Int32))) = (0 : Int32) := c_5
            refine lv_iinc (v := (nI (i + 1))) (lv' := [(3, .int (nI (i + 1))), (0, .int (nI u)), (1, .long set)]) hx hb dX5_coversOther_26 hl (k := 0) rfl (nI_1 i) (by decide) rfl (fun ls hl => ?_)
            refine lv_goto (tgt := 2) hx hb dX5_coversOther_29 (by decide) ?_
            have hlt : i < u := hk_nge u c_1
            exact ih_2 (i + 1) (by omega) (by omega) (fun k hk => (Nat.lt_succ_iff_lt_or_eq.mp hk).elim (hno k) (fun e => by rw [e]; exact fun h => absurd (of_decide_eq_true h.2) c_5)) _ (lv_sub hl [0, 1, 2] rfl)
          · have c_5h : (nI i &&& (nI u ^^^ (-1 : Int32))) = (0 : Int32) := c_5
            refine lv_iconst (v := 1) hx hb dX5_coversOther_24 (by decide) ?_
            exact W.zret (v := 1) hx hb hr (hk_z1) (fun t ht hW => ⟨_, rfl, by rw [if_pos]; exact ⟨i, hk_nge u c_1, bI_1.mp c_4, decide_eq_true c_5⟩, ht⟩) (fun _ h => by cases h) dX5_coversOther_25
  exact loop2 _ 0 (Nat.lt_succ_self _) (Nat.zero_le _) (fun _ h => absurd h (Nat.not_lt_zero _)) _ (lv_sub hl [0, 1, 2] rfl)
set_option maxHeartbeats 4000000 in
set_option maxRecDepth 100000 in
theorem c5_hasCover (l : Launch) (D : va_G) (g : hk_G) (ti : Nat) (set : Int64)  : Met l yX5_hasCover wsX5_hasCover ({ frames := 2, cells := 0, slots := 0, locals := 45 }) (va_Pc [.long set] (hk_Ro D g ti [])) (vp_Si (fun r => ((∃ u, u < 64 ∧ lb set u = true ∧ ∃ k, k < u ∧ lb set k = true ∧ cov u k = true) ∧ r = 1) ∨ (¬ (∃ u, u < 64 ∧ lb set u = true ∧ ∃ k, k < u ∧ lb set k = true ∧ cov u k = true) ∧ r = 0))) 0 0 (fun _ => False) := by
  refine Met.ofW (cc := cX5_hasCover) (maxL := 3) (ret := (some .boolean)) (by decide) rfl ?_
  intro p e s m args below meth c s₁ B hml hv
  obtain ⟨rfl, hP, hE⟩ := hv
  have hx := B.exec
  have hb := B.bytes
  have hr := B.returns
  have hts := atoms_spec (ws := wsX5_hasCover) B.pre
  have hown : s.vm.findClass RX5 = some m.cls := findClass_of_methodNamed B.named
  have hlocks := B.notSynchronized
  have hK := hE.1
  have hS : va_S (fun _ => False) s.heap s.heap [] := va_S.rf
  have hl := lv_entry ([.long set]) (n := 3) (Nat.le_of_ble_eq_true rfl)
  rw [lg_entry_eq]
  generalize (lg_sl ([.long set]) ++ List.replicate (3 - (lg_sl ([.long set])).length) Slot.unset).toArray = ls at hl ⊢
  have hl : lv_has ls 3 [(0, .long set)] := hl
  refine lv_iconst (v := 0) hx hb dX5_hasCover_0 (by decide) ?_
  refine lv_istore_n (lv' := [(2, .int 0), (0, .long set)]) hx hb dX5_hasCover_1 rfl hl (by decide) rfl (fun ls hl => ?_)
  have loop2 : ∀ (n : Nat) (i : Nat), (64 - i) < n → (i ≤ 64) → (∀ u, u < i → ¬ (lb set u = true ∧ ∃ k, k < u ∧ lb set k = true ∧ cov u k = true)) → ∀ ls : Array Slot, lv_has ls 3 [(2, .int (nI i)), (0, .long set)] → W p l e (headSpec wsX5_hasCover ({ frames := 2, cells := 0, slots := 0, locals := 45 })).room s m ([.long set] : List Value).toArray below meth c s.heap [] 0 0 (MQ below (vp_Si (fun r => ((∃ u, u < 64 ∧ lb set u = true ∧ ∃ k, k < u ∧ lb set k = true ∧ cov u k = true) ∧ r = 1) ∨ (¬ (∃ u, u < 64 ∧ lb set u = true ∧ ∃ k, k < u ∧ lb set k = true ∧ cov u k = true) ∧ r = 0))) ([.long set] : List Value).toArray s 0 0 (fun _ => False)) (F0 m 2 ls []) := by
    intro n
    induction n with
    | zero => intro i hm; exact absurd hm (Nat.not_lt_zero _)
    | succ n ih_2 =>
      intro i hm_2 hi hno ls hl
      refine lv_iload_n hx hb dX5_hasCover_2 rfl (lv_at hl 0 rfl) ?_
      refine lv_bipush (v := 64) hx hb dX5_hasCover_3 (by decide) ?_
      refine lv_icmp_ge (tgt := 33) hx hb dX5_hasCover_5 (by decide) (fun c_1 => ?_) (fun c_1 => ?_)
      · have c_1h : (64 : Int32) ≤ nI i := c_1
        refine lv_iconst (v := 0) hx hb dX5_hasCover_33 (by decide) ?_
        exact W.zret (v := 0) hx hb hr (hk_z0) (fun t ht hW => ⟨_, rfl, Or.inr ⟨by rintro ⟨u, hu, h1, h2⟩; exact hno u (by have := hk_ge 64 c_1; omega) ⟨h1, h2⟩, rfl⟩, ht⟩) (fun _ h => by cases h) dX5_hasCover_34
      · have c_1h : ¬ (64 : Int32) ≤ nI i := c_1
        refine lv_lload_n hx hb dX5_hasCover_8 rfl (lv_at hl 1 rfl) ?_
        refine lv_iload_n hx hb dX5_hasCover_9 rfl (lv_at hl 0 rfl) ?_
        refine hk_csi (va_runS (As := [.long set, .int (nI i)]) (rest := []) ⟨hx, hb, hml, hown, hts⟩ (c5_bit l D g ti set i (hk_nge 64 c_1)) (va_cwS 2 hts gX5_hasCover_X5_bit rfl rfl rfl (by decide +kernel) ⟨Nat.le_of_ble_eq_true rfl, Nat.le_of_ble_eq_true rfl⟩) (hk_roS hE hP hS [] rfl) rfl rfl hl.1 rfl (lv_room (Nat.le_of_ble_eq_true rfl)) dX5_hasCover_10 ⟨Nat.zero_le _, Nat.zero_le _⟩) (fun r_2 hr_3 => ?_)
        subst hr_3
        refine lv_iconst (v := 1) hx hb dX5_hasCover_13 (by decide) ?_
        refine lv_icmp_ne (tgt := 27) hx hb dX5_hasCover_14 (by decide) (fun c_4 => ?_) (fun c_4 => ?_)
        · have c_4h : ¬ (bI (lb set i)) = (1 : Int32) := c_4
          refine lv_iinc (v := (nI (i + 1))) (lv' := [(2, .int (nI (i + 1))), (0, .long set)]) hx hb dX5_hasCover_27 hl (k := 0) rfl (nI_1 i) (by decide) rfl (fun ls hl => ?_)
          refine lv_goto (tgt := 2) hx hb dX5_hasCover_30 (by decide) ?_
          have hlt : i < 64 := hk_nge 64 c_1
          exact ih_2 (i + 1) (by omega) (by omega) (fun k hk => (Nat.lt_succ_iff_lt_or_eq.mp hk).elim (hno k) (fun e => by rw [e]; exact fun h => absurd h.1 (by rw [bI_n1 c_4]; decide))) _ (lv_sub hl [0, 1] rfl)
        · have c_4h : (bI (lb set i)) = (1 : Int32) := c_4
          refine lv_iload_n hx hb dX5_hasCover_17 rfl (lv_at hl 0 rfl) ?_
          refine lv_lload_n hx hb dX5_hasCover_18 rfl (lv_at hl 1 rfl) ?_
          refine hk_csi (va_runS (As := [.int (nI i), .long set]) (rest := []) ⟨hx, hb, hml, hown, hts⟩ (c5_coversOther l D g ti i set (hk_nge 64 c_1)) (va_cwS 2 hts gX5_hasCover_X5_coversOther rfl rfl rfl (by decide +kernel) ⟨Nat.le_of_ble_eq_true rfl, Nat.le_of_ble_eq_true rfl⟩) (hk_roS hE hP hS [] rfl) rfl rfl hl.1 rfl (lv_room (Nat.le_of_ble_eq_true rfl)) dX5_hasCover_19 ⟨Nat.zero_le _, Nat.zero_le _⟩) (fun r_5 hr_6 => ?_)
          subst hr_6
          refine lv_if_eq (tgt := 27) hx hb dX5_hasCover_22 (by decide) (fun c_7 => ?_) (fun c_7 => ?_)
          · have c_7h : (if (∃ k, k < i ∧ lb set k = true ∧ cov i k = true) then 1 else 0) = (0 : Int32) := c_7
            refine lv_iinc (v := (nI (i + 1))) (lv' := [(2, .int (nI (i + 1))), (0, .long set)]) hx hb dX5_hasCover_27 hl (k := 0) rfl (nI_1 i) (by decide) rfl (fun ls hl => ?_)
            refine lv_goto (tgt := 2) hx hb dX5_hasCover_30 (by decide) ?_
            have hlt : i < 64 := hk_nge 64 c_1
            exact ih_2 (i + 1) (by omega) (by omega) (fun k hk => (Nat.lt_succ_iff_lt_or_eq.mp hk).elim (hno k) (fun e => by rw [e]; exact fun h => by rw [if_pos h.2] at c_7; exact absurd c_7 (by decide))) _ (lv_sub hl [0, 1] rfl)
          · have c_7h : ¬ (if (∃ k, k < i ∧ lb set k = true ∧ cov i k = true) then 1 else 0) = (0 : Int32) := c_7
            refine lv_iconst (v := 1) hx hb dX5_hasCover_25 (by decide) ?_
            exact W.zret (v := 1) hx hb hr (hk_z1) (fun t ht hW => ⟨_, rfl, Or.inl ⟨⟨i, hk_nge 64 c_1, bI_1.mp c_4, Classical.byContradiction fun q => c_7 (if_neg q)⟩, rfl⟩, ht⟩) (fun _ h => by cases h) dX5_hasCover_26
  exact loop2 _ 0 (Nat.lt_succ_self _) (Nat.zero_le _) (fun _ h => absurd h (Nat.not_lt_zero _)) _ (lv_sub hl [0, 1] rfl)
set_option maxHeartbeats 4000000 in
set_option maxRecDepth 100000 in
theorem c4_isDigit (l : Launch) (D : va_G) (g : hk_G) (ti : Nat) (x : Int32)  : Met l yX4_isDigit wsX4_isDigit ({ frames := 0, cells := 0, slots := 0, locals := 0 }) (va_Pc [.int x] (hk_Ro D g ti [])) (vp_Si (fun r => r = if x < 48 then 0 else if 57 < x then 0 else 1)) 0 0 (fun _ => False) := by
  refine Met.ofW (cc := cX4_isDigit) (maxL := 1) (ret := (some .boolean)) (by decide) rfl ?_
  intro p e s m args below meth c s₁ B hml hv
  obtain ⟨rfl, hP, hE⟩ := hv
  have hx := B.exec
  have hb := B.bytes
  have hr := B.returns
  have hts := atoms_spec (ws := wsX4_isDigit) B.pre
  have hown : s.vm.findClass RX4 = some m.cls := findClass_of_methodNamed B.named
  have hlocks := B.notSynchronized
  have hK := hE.1
  have hS : va_S (fun _ => False) s.heap s.heap [] := va_S.rf
  have hl := lv_entry ([.int x]) (n := 1) (Nat.le_of_ble_eq_true rfl)
  rw [lg_entry_eq]
  generalize (lg_sl ([.int x]) ++ List.replicate (1 - (lg_sl ([.int x])).length) Slot.unset).toArray = ls at hl ⊢
  have hl : lv_has ls 1 [(0, .int x)] := hl
  refine lv_iload_n hx hb dX4_isDigit_0 rfl (lv_at hl 0 rfl) ?_
  refine lv_bipush (v := 48) hx hb dX4_isDigit_1 (by decide) ?_
  refine lv_icmp_lt (tgt := 16) hx hb dX4_isDigit_3 (by decide) (fun c_1 => ?_) (fun c_1 => ?_)
  · have c_1h : x < (48 : Int32) := c_1
    refine lv_iconst (v := 0) hx hb dX4_isDigit_16 (by decide) ?_
    exact W.zret (v := 0) hx hb hr (hk_z0) (fun t ht hW => ⟨_, rfl, by rw [if_pos c_1], ht⟩) (fun _ h => by cases h) dX4_isDigit_17
  · have c_1h : ¬ x < (48 : Int32) := c_1
    refine lv_iload_n hx hb dX4_isDigit_6 rfl (lv_at hl 0 rfl) ?_
    refine lv_bipush (v := 57) hx hb dX4_isDigit_7 (by decide) ?_
    refine lv_icmp_gt (tgt := 16) hx hb dX4_isDigit_9 (by decide) (fun c_2 => ?_) (fun c_2 => ?_)
    · have c_2h : (57 : Int32) < x := c_2
      refine lv_iconst (v := 0) hx hb dX4_isDigit_16 (by decide) ?_
      exact W.zret (v := 0) hx hb hr (hk_z0) (fun t ht hW => ⟨_, rfl, by rw [if_neg c_1, if_pos c_2], ht⟩) (fun _ h => by cases h) dX4_isDigit_17
    · have c_2h : ¬ (57 : Int32) < x := c_2
      refine lv_iconst (v := 1) hx hb dX4_isDigit_12 (by decide) ?_
      refine lv_goto (tgt := 17) hx hb dX4_isDigit_13 (by decide) ?_
      exact W.zret (v := 1) hx hb hr (hk_z1) (fun t ht hW => ⟨_, rfl, by rw [if_neg c_1, if_neg c_2], ht⟩) (fun _ h => by cases h) dX4_isDigit_17
set_option maxHeartbeats 4000000 in
set_option maxRecDepth 100000 in
theorem c4_mayBegin (l : Launch) (D : va_G) (g : hk_G) (ti : Nat) (x : Int32) (b : Int32)  : Met l yX4_mayBegin wsX4_mayBegin ({ frames := 0, cells := 0, slots := 0, locals := 0 }) (va_Pc [.int x, .int b] (hk_Ro D g ti [])) (vp_Si (fun r => r = if b = 0 then (if x = 103 then 1 else if x = 111 then 1 else if x = 119 then 1 else 0) else if x = 105 then 1 else 0)) 0 0 (fun _ => False) := by
  refine Met.ofW (cc := cX4_mayBegin) (maxL := 2) (ret := (some .boolean)) (by decide) rfl ?_
  intro p e s m args below meth c s₁ B hml hv
  obtain ⟨rfl, hP, hE⟩ := hv
  have hx := B.exec
  have hb := B.bytes
  have hr := B.returns
  have hts := atoms_spec (ws := wsX4_mayBegin) B.pre
  have hown : s.vm.findClass RX4 = some m.cls := findClass_of_methodNamed B.named
  have hlocks := B.notSynchronized
  have hK := hE.1
  have hS : va_S (fun _ => False) s.heap s.heap [] := va_S.rf
  have hl := lv_entry ([.int x, .int b]) (n := 2) (Nat.le_of_ble_eq_true rfl)
  rw [lg_entry_eq]
  generalize (lg_sl ([.int x, .int b]) ++ List.replicate (2 - (lg_sl ([.int x, .int b])).length) Slot.unset).toArray = ls at hl ⊢
  have hl : lv_has ls 2 [(0, .int x), (1, .int b)] := hl
  refine lv_iload_n hx hb dX4_mayBegin_0 rfl (lv_at hl 1 rfl) ?_
  refine lv_if_eq (tgt := 16) hx hb dX4_mayBegin_1 (by decide) (fun c_1 => ?_) (fun c_1 => ?_)
  · have c_1h : b = (0 : Int32) := c_1
    refine lv_iload_n hx hb dX4_mayBegin_16 rfl (lv_at hl 0 rfl) ?_
    refine lv_bipush (v := 103) hx hb dX4_mayBegin_17 (by decide) ?_
    refine lv_icmp_eq (tgt := 34) hx hb dX4_mayBegin_19 (by decide) (fun c_2 => ?_) (fun c_2 => ?_)
    · have c_2h : x = (103 : Int32) := c_2
      refine lv_iconst (v := 1) hx hb dX4_mayBegin_34 (by decide) ?_
      refine lv_goto (tgt := 39) hx hb dX4_mayBegin_35 (by decide) ?_
      exact W.zret (v := 1) hx hb hr (hk_z1) (fun t ht hW => ⟨_, rfl, by rw [if_pos c_1, if_pos c_2], ht⟩) (fun _ h => by cases h) dX4_mayBegin_39
    · have c_2h : ¬ x = (103 : Int32) := c_2
      refine lv_iload_n hx hb dX4_mayBegin_22 rfl (lv_at hl 0 rfl) ?_
      refine lv_bipush (v := 111) hx hb dX4_mayBegin_23 (by decide) ?_
      refine lv_icmp_eq (tgt := 34) hx hb dX4_mayBegin_25 (by decide) (fun c_3 => ?_) (fun c_3 => ?_)
      · have c_3h : x = (111 : Int32) := c_3
        refine lv_iconst (v := 1) hx hb dX4_mayBegin_34 (by decide) ?_
        refine lv_goto (tgt := 39) hx hb dX4_mayBegin_35 (by decide) ?_
        exact W.zret (v := 1) hx hb hr (hk_z1) (fun t ht hW => ⟨_, rfl, by rw [if_pos c_1, if_neg c_2, if_pos c_3], ht⟩) (fun _ h => by cases h) dX4_mayBegin_39
      · have c_3h : ¬ x = (111 : Int32) := c_3
        refine lv_iload_n hx hb dX4_mayBegin_28 rfl (lv_at hl 0 rfl) ?_
        refine lv_bipush (v := 119) hx hb dX4_mayBegin_29 (by decide) ?_
        refine lv_icmp_ne (tgt := 38) hx hb dX4_mayBegin_31 (by decide) (fun c_4 => ?_) (fun c_4 => ?_)
        · have c_4h : ¬ x = (119 : Int32) := c_4
          refine lv_iconst (v := 0) hx hb dX4_mayBegin_38 (by decide) ?_
          exact W.zret (v := 0) hx hb hr (hk_z0) (fun t ht hW => ⟨_, rfl, by rw [if_pos c_1, if_neg c_2, if_neg c_3, if_neg c_4], ht⟩) (fun _ h => by cases h) dX4_mayBegin_39
        · have c_4h : x = (119 : Int32) := c_4
          refine lv_iconst (v := 1) hx hb dX4_mayBegin_34 (by decide) ?_
          refine lv_goto (tgt := 39) hx hb dX4_mayBegin_35 (by decide) ?_
          exact W.zret (v := 1) hx hb hr (hk_z1) (fun t ht hW => ⟨_, rfl, by rw [if_pos c_1, if_neg c_2, if_neg c_3, if_pos c_4], ht⟩) (fun _ h => by cases h) dX4_mayBegin_39
  · have c_1h : ¬ b = (0 : Int32) := c_1
    refine lv_iload_n hx hb dX4_mayBegin_4 rfl (lv_at hl 0 rfl) ?_
    refine lv_bipush (v := 105) hx hb dX4_mayBegin_5 (by decide) ?_
    refine lv_icmp_ne (tgt := 14) hx hb dX4_mayBegin_7 (by decide) (fun c_5 => ?_) (fun c_5 => ?_)
    · have c_5h : ¬ x = (105 : Int32) := c_5
      refine lv_iconst (v := 0) hx hb dX4_mayBegin_14 (by decide) ?_
      exact W.zret (v := 0) hx hb hr (hk_z0) (fun t ht hW => ⟨_, rfl, by rw [if_neg c_1, if_neg c_5], ht⟩) (fun _ h => by cases h) dX4_mayBegin_15
    · have c_5h : x = (105 : Int32) := c_5
      refine lv_iconst (v := 1) hx hb dX4_mayBegin_10 (by decide) ?_
      refine lv_goto (tgt := 15) hx hb dX4_mayBegin_11 (by decide) ?_
      exact W.zret (v := 1) hx hb hr (hk_z1) (fun t ht hW => ⟨_, rfl, by rw [if_neg c_1, if_pos c_5], ht⟩) (fun _ h => by cases h) dX4_mayBegin_15
set_option maxHeartbeats 4000000 in
set_option maxRecDepth 100000 in
theorem c2_at (l : Launch) (D : va_G) (g : hk_G) (ti : Nat) (a : Nat) (t : Nat) (fc : Nat → Int32) (ln : Int32) (v : Int32) (hc : ∀ j, narrow .char (.int (fc j)) = .int (fc j)) : Met l yX2_at wsX2_at ({ frames := 0, cells := 0, slots := 0, locals := 0 }) (va_Pc [.ref a, .int v] (hk_Ro D g ti [(a, .inr (2, [.ref t, .int ln])), (t, .inl (g.1, 200, .inl fc))])) (vp_Si (fun r => r = if v < 0 then 0 else if ln ≤ v then 0 else if v < 200 then fc v.toNatClampNeg else 0)) 0 0 (fun _ => False) := by
  refine Met.ofW (cc := cX2_at) (maxL := 2) (ret := (some .char)) (by decide) rfl ?_
  intro p e s m args below meth c s₁ B hml hv
  obtain ⟨rfl, hP, hE⟩ := hv
  have hx := B.exec
  have hb := B.bytes
  have hr := B.returns
  have hts := atoms_spec (ws := wsX2_at) B.pre
  have hown : s.vm.findClass RX2 = some m.cls := findClass_of_methodNamed B.named
  have hlocks := B.notSynchronized
  have hK := hE.1
  have hi2 : ∀ w ∈ wsX20, w ∈ wsX2_at := fun w h => List.mem_cons_of_mem _ (List.mem_append_right _ h)
  have hS : va_S (fun _ => False) s.heap s.heap [] := va_S.rf
  have hl := lv_entry ([.ref a, .int v]) (n := 2) (Nat.le_of_ble_eq_true rfl)
  rw [lg_entry_eq]
  generalize (lg_sl ([.ref a, .int v]) ++ List.replicate (2 - (lg_sl ([.ref a, .int v])).length) Slot.unset).toArray = ls at hl ⊢
  have hl : lv_has ls 2 [(0, .ref a), (1, .int v)] := hl
  refine lv_iload_n hx hb dX2_at_0 rfl (lv_at hl 1 rfl) ?_
  refine lv_if_lt (tgt := 19) hx hb dX2_at_1 (by decide) (fun c_1 => ?_) (fun c_1 => ?_)
  · have c_1h : v < (0 : Int32) := c_1
    refine lv_iconst (v := 0) hx hb dX2_at_19 (by decide) ?_
    exact W.zret (v := 0) hx hb hr (by rfl) (fun t ht hW => ⟨_, rfl, by rw [if_pos c_1], ht⟩) (fun _ h => by cases h) dX2_at_20
  · have c_1h : ¬ v < (0 : Int32) := c_1
    refine lv_iload_n hx hb dX2_at_4 rfl (lv_at hl 1 rfl) ?_
    refine lv_aload_n hx hb dX2_at_5 rfl (lv_at hl 0 rfl) ?_
    refine va_get (D := D) (ci := 2) (v := .int ln) (C := RX2) (T := TX2) (N := 2) hx hb hts hi2 hown hK hP 0 rfl rfl 1 (by decide) (hts (.fieldLink RX2 15 "SelfCheckingCircuit$CircuitText" "length" "I") (by decide +kernel)) (fun _ h9 => h9) rfl dX2_at_6 ?_
    refine lv_icmp_ge (tgt := 19) hx hb dX2_at_9 (by decide) (fun c_2 => ?_) (fun c_2 => ?_)
    · have c_2h : ln ≤ v := c_2
      refine lv_iconst (v := 0) hx hb dX2_at_19 (by decide) ?_
      exact W.zret (v := 0) hx hb hr (by rfl) (fun t ht hW => ⟨_, rfl, by rw [if_neg c_1, if_pos c_2], ht⟩) (fun _ h => by cases h) dX2_at_20
    · have c_2h : ¬ ln ≤ v := c_2
      refine lv_iload_n hx hb dX2_at_12 rfl (lv_at hl 1 rfl) ?_
      refine lv_sipush (v := 200) hx hb dX2_at_13 (by decide) ?_
      refine lv_icmp_lt (tgt := 21) hx hb dX2_at_16 (by decide) (fun c_3 => ?_) (fun c_3 => ?_)
      · have c_3h : v < (200 : Int32) := c_3
        refine lv_aload_n hx hb dX2_at_21 rfl (lv_at hl 0 rfl) ?_
        refine va_get (D := D) (ci := 2) (v := .ref t) (C := RX2) (T := TX2) (N := 2) hx hb hts hi2 hown hK hP 0 rfl rfl 0 (by decide) (hts (.fieldLink RX2 9 "SelfCheckingCircuit$CircuitText" "characters" "[C") (by decide +kernel)) (fun _ h9 => h9) rfl dX2_at_22 ?_
        refine lv_iload_n hx hb dX2_at_25 rfl (lv_at hl 1 rfl) ?_
        refine va_cald hx hb hK hP 1 0 rfl rfl (hk_inR' (n := 200) (by decide) (by decide) (Int32.not_lt.mp c_1) c_3) dX2_at_26 ?_
        exact W.zret (v := (fc v.toNatClampNeg)) hx hb hr (hc _) (fun t ht hW => ⟨_, rfl, by rw [if_neg c_1, if_neg c_2, if_pos c_3], ht⟩) (fun _ h => by cases h) dX2_at_27
      · have c_3h : ¬ v < (200 : Int32) := c_3
        refine lv_iconst (v := 0) hx hb dX2_at_19 (by decide) ?_
        exact W.zret (v := 0) hx hb hr (by rfl) (fun t ht hW => ⟨_, rfl, by rw [if_neg c_1, if_neg c_2, if_neg c_3], ht⟩) (fun _ h => by cases h) dX2_at_20
