theorem Ff_lt {f : Int32} {j : Nat} (hf : fK f) (h : f < 0) (hj : j < 2 ^ 31) : Ff f j = none := by
  rcases hf with rfl | ⟨k, hk, rfl⟩
  · exact Ff_m1 j hj
  · exact absurd h (nI_pos (by omega))
theorem Ff_e {f : Int32} {j : Nat} (hf : fK f) (h0 : ¬ f < 0) (h : f / 2 = nI j) : ∃ b, Ff f j = some b ∧ (f - f / 2 * 2) = bI b := by
  rcases hf with rfl | ⟨k, hk, rfl⟩
  · exact absurd (by decide) h0
  · exact ⟨_, Ff_eq hk h, (Ff_k1 k hk).2.2.2⟩
theorem Ff_n {f : Int32} {j : Nat} (hf : fK f) (h0 : ¬ f < 0) (h : ¬ f / 2 = nI j) : Ff f j = none := by
  rcases hf with rfl | ⟨k, hk, rfl⟩
  · exact absurd (by decide) h0
  · exact Ff_ne hk h
set_option maxHeartbeats 4000000 in
set_option maxRecDepth 100000 in
theorem c6_made (l : Launch) (D : va_G) (g : hk_G) (ti : Nat) (mo : Nat) (ms : Nat) (mr : Nat) (mk : Nat) (mt : Nat) (mv : Nat) (me : Nat) (fs : Nat → Int32) (km : Nat) (ln : Nat) (sp : Nat) (rs : Nat) (ws : Nat) (fv : Nat → Int32) (n : Nat) (N : Nat) (o : Nat) (cd : Nat) (wt : Nat) (ty : Nat → Nat) (pa : Nat → Nat) (pb : Nat → Nat) (vo : Nat → Nat) (nm : Int64) (Xv : Nat → Bool) (j : Nat) (hC : Cok n N o cd wt) (hM : MR n N o cd wt ty pa pb vo nm fs) (hnj : n ≤ j) (hj : j < N) (hV : ∀ k, k < j → fv k = bI (Xv k)) : Met l yX6_made wsX6_made ({ frames := 1, cells := 0, slots := 0, locals := 22 }) (va_Pc [.ref mo, .int (nI j)] (hk_Ro D g ti [(mo, .inr (6, [.ref ms, .ref mr, .ref mk, .int (nI km), .ref mt, .int (nI ln), .int (nI sp), .int (nI rs), .int (nI ws), .ref mv, .ref me])), (ms, .inl (g.2.1, 147, .inl fs)), (mv, .inl (g.2.1, 30, .inl fv))])) (vp_Si (fun r => r = bI (gB (ty j) (Xv (pa j)) (Xv (pb j))))) 0 0 (fun _ => False) := by
  refine Met.ofW (cc := cX6_made) (maxL := 4) (ret := (some .int)) (by decide) rfl ?_
  intro p e s m args below meth c s₁ Bd hml hv
  obtain ⟨rfl, hP, hE⟩ := hv
  have hx := Bd.exec
  have hb := Bd.bytes
  have hr := Bd.returns
  have hts := atoms_spec (ws := wsX6_made) Bd.pre
  have hown : s.vm.findClass RX6 = some m.cls := findClass_of_methodNamed Bd.named
  have hlocks := Bd.notSynchronized
  have hK := hE.1
  have hi6 : ∀ w ∈ wsX60, w ∈ wsX6_made := fun w h => List.mem_cons_of_mem _ (List.mem_append_right _ h)
  have hS : va_S (fun _ => False) s.heap s.heap [] := va_S.rf
  have hl := lv_entry ([.ref mo, .int (nI j)]) (n := 4) (Nat.le_of_ble_eq_true rfl)
  rw [lg_entry_eq]
  generalize (lg_sl ([.ref mo, .int (nI j)]) ++ List.replicate (4 - (lg_sl ([.ref mo, .int (nI j)])).length) Slot.unset).toArray = ls at hl ⊢
  have hl : lv_has ls 4 [(0, .ref mo), (1, .int (nI j))] := hl
  refine lv_aload_n hx hb dX6_made_0 rfl (lv_at hl 0 rfl) ?_
  refine va_get (D := D) (ci := 6) (v := .ref mv) (C := RX6) (T := TX6) (N := 11) hx hb hts hi6 hown hK hP 0 rfl rfl 9 (by decide) (hts (.fieldLink RX6 22 "SelfCheckingCircuitModel" "value" "[I") (by decide +kernel)) (fun _ h9 => h9) rfl dX6_made_1 ?_
  refine lv_aload_n hx hb dX6_made_4 rfl (lv_at hl 0 rfl) ?_
  refine lv_iload_n hx hb dX6_made_5 rfl (lv_at hl 1 rfl) ?_
  refine lv_iconst (v := 0) hx hb dX6_made_6 (by decide) ?_
  refine hk_csi (va_runV (As := [.int (nI j), .int 0]) (rest := [.ref mv]) ⟨hx, hb, hml, hown, hts⟩ (c6_operand_0 l D g ti mo ms mr mk mt mv me fs km ln sp rs ws n N o cd wt ty pa pb vo nm j hC hM hnj hj) (cwV 2 hts gX6_made_X6_operand rfl rfl rfl (by decide +kernel) ⟨Nat.le_of_ble_eq_true rfl, Nat.le_of_ble_eq_true rfl⟩) (hk_roV hE hP hS 6 rfl rfl [0, 1] rfl rfl) rfl rfl hl.1 rfl (lv_room (Nat.le_of_ble_eq_true rfl)) dX6_made_7 ⟨Nat.zero_le _, Nat.zero_le _⟩) (fun r_1 hr_2 => ?_)
  subst hr_2
  refine hk_ti (nI (pa j)) ((hM.2.1 j hnj hj).2.2.1) ?_
  refine va_iald hx hb hK hP 2 1 rfl rfl (vp_in_nI (N := 30) (by have := (hM.2.1 j hnj hj).2.2.2.1; have := hC.2.2.2.1; have := hC.2.1; omega) (by decide)) dX6_made_10 ?_
  refine hk_ti (fv (pa j)) (congrArg fv (nI_clamp (by have := (hM.2.1 j hnj hj).2.2.2.1; have := hC.2.2.2.1; have := hC.2.1; omega))) ?_
  refine hk_ti (bI (Xv (pa j))) (hV _ (hM.2.1 j hnj hj).2.2.2.1) ?_
  refine lv_istore_n (lv' := [(2, .int (bI (Xv (pa j)))), (0, .ref mo), (1, .int (nI j))]) hx hb dX6_made_11 rfl hl (by decide) rfl (fun ls hl => ?_)
  refine lv_aload_n hx hb dX6_made_12 rfl (lv_at hl 1 rfl) ?_
  refine lv_iload_n hx hb dX6_made_13 rfl (lv_at hl 2 rfl) ?_
  refine hk_csi (va_runV (As := [.int (nI j)]) (rest := []) ⟨hx, hb, hml, hown, hts⟩ (c6_typeAt l D g ti mo ms mr mk mt mv me fs km ln sp rs ws n N o cd wt ty pa pb vo nm j hC hM hj) (cwV 1 hts gX6_made_X6_typeAt rfl rfl rfl (by decide +kernel) ⟨Nat.le_of_ble_eq_true rfl, Nat.le_of_ble_eq_true rfl⟩) (hk_roV hE hP hS 6 rfl rfl [0, 1] rfl rfl) rfl rfl hl.1 rfl (lv_room (Nat.le_of_ble_eq_true rfl)) dX6_made_14 ⟨Nat.zero_le _, Nat.zero_le _⟩) (fun r_3 hr_4 => ?_)
  subst hr_4
  refine hk_ti (nI (ty j)) (if_neg (Nat.not_lt.mpr hnj)) ?_
  refine lv_iconst (v := 5) hx hb dX6_made_17 (by decide) ?_
  refine lv_icmp_ne (tgt := 25) hx hb dX6_made_18 (by decide) (fun c_5 => ?_) (fun c_5 => ?_)
  · have c_5h : ¬ nI (ty j) = (5 : Int32) := c_5
    refine lv_aload_n hx hb dX6_made_25 rfl (lv_at hl 1 rfl) ?_
    refine va_get (D := D) (ci := 6) (v := .ref mv) (C := RX6) (T := TX6) (N := 11) hx hb hts hi6 hown hK hP 0 rfl rfl 9 (by decide) (hts (.fieldLink RX6 22 "SelfCheckingCircuitModel" "value" "[I") (by decide +kernel)) (fun _ h9 => h9) rfl dX6_made_26 ?_
    refine lv_aload_n hx hb dX6_made_29 rfl (lv_at hl 1 rfl) ?_
    refine lv_iload_n hx hb dX6_made_30 rfl (lv_at hl 2 rfl) ?_
    refine lv_iconst (v := 1) hx hb dX6_made_31 (by decide) ?_
    refine hk_csi (va_runV (As := [.int (nI j), .int 1]) (rest := [.ref mv]) ⟨hx, hb, hml, hown, hts⟩ (c6_operand_1 l D g ti mo ms mr mk mt mv me fs km ln sp rs ws n N o cd wt ty pa pb vo nm j hC hM hnj hj) (cwV 2 hts gX6_made_X6_operand rfl rfl rfl (by decide +kernel) ⟨Nat.le_of_ble_eq_true rfl, Nat.le_of_ble_eq_true rfl⟩) (hk_roV hE hP hS 6 rfl rfl [0, 1] rfl rfl) rfl rfl hl.1 rfl (lv_room (Nat.le_of_ble_eq_true rfl)) dX6_made_32 ⟨Nat.zero_le _, Nat.zero_le _⟩) (fun r_6 hr_7 => ?_)
    subst hr_7
    refine hk_ti (nI (pb j)) (((hM.2.1 j hnj hj).2.2.2.2 (fun q => c_5 (by rw [q]; rfl))).1) ?_
    refine va_iald hx hb hK hP 2 1 rfl rfl (vp_in_nI (N := 30) (by have := ((hM.2.1 j hnj hj).2.2.2.2 (fun q => c_5 (by rw [q]; rfl))).2; have := hC.2.2.2.1; have := hC.2.1; omega) (by decide)) dX6_made_35 ?_
    refine hk_ti (fv (pb j)) (congrArg fv (nI_clamp (by have := ((hM.2.1 j hnj hj).2.2.2.2 (fun q => c_5 (by rw [q]; rfl))).2; have := hC.2.2.2.1; have := hC.2.1; omega))) ?_
    refine hk_ti (bI (Xv (pb j))) (hV _ ((hM.2.1 j hnj hj).2.2.2.2 (fun q => c_5 (by rw [q]; rfl))).2) ?_
    refine lv_istore_n (lv' := [(3, .int (bI (Xv (pb j)))), (2, .int (bI (Xv (pa j)))), (0, .ref mo), (1, .int (nI j))]) hx hb dX6_made_36 rfl hl (by decide) rfl (fun ls hl => ?_)
    refine lv_aload_n hx hb dX6_made_37 rfl (lv_at hl 2 rfl) ?_
    refine lv_iload_n hx hb dX6_made_38 rfl (lv_at hl 3 rfl) ?_
    refine hk_csi (va_runV (As := [.int (nI j)]) (rest := []) ⟨hx, hb, hml, hown, hts⟩ (c6_typeAt l D g ti mo ms mr mk mt mv me fs km ln sp rs ws n N o cd wt ty pa pb vo nm j hC hM hj) (cwV 1 hts gX6_made_X6_typeAt rfl rfl rfl (by decide +kernel) ⟨Nat.le_of_ble_eq_true rfl, Nat.le_of_ble_eq_true rfl⟩) (hk_roV hE hP hS 6 rfl rfl [0, 1] rfl rfl) rfl rfl hl.1 rfl (lv_room (Nat.le_of_ble_eq_true rfl)) dX6_made_39 ⟨Nat.zero_le _, Nat.zero_le _⟩) (fun r_8 hr_9 => ?_)
    subst hr_9
    refine hk_ti (nI (ty j)) (if_neg (Nat.not_lt.mpr hnj)) ?_
    rcases hk_sw0_4 (nI (ty j)) with c_11 | c_11 | c_11 | c_11 | c_11 | c_11
    · refine hk_ti 0 c_11 ?_
      refine lv_tableIn (tgt := 76) (off := 34) hx hb dX6_made_42 (by decide) (by decide) rfl (by decide) ?_
      refine lv_iload_n hx hb dX6_made_76 rfl (lv_at hl 1 rfl) ?_
      refine lv_iload_n hx hb dX6_made_77 rfl (lv_at hl 0 rfl) ?_
      refine lv_iand hx hb dX6_made_78 ?_
      exact W.iret (v := (bI (Xv (pa j)) &&& bI (Xv (pb j)))) hx hb hr (fun tt ht hW => ⟨_, rfl, by rw [show ty j = 0 from nI_inj (b := 0) c_11 (by have := (hM.2.1 j hnj hj).2.1; omega) (by decide)]; exact (gI_d _ _).1, ht⟩) (fun _ h => by cases h) dX6_made_79
    · refine hk_ti 1 c_11 ?_
      refine lv_tableIn (tgt := 80) (off := 38) hx hb dX6_made_42 (by decide) (by decide) rfl (by decide) ?_
      refine lv_iload_n hx hb dX6_made_80 rfl (lv_at hl 1 rfl) ?_
      refine lv_iload_n hx hb dX6_made_81 rfl (lv_at hl 0 rfl) ?_
      refine lv_ior hx hb dX6_made_82 ?_
      exact W.iret (v := (bI (Xv (pa j)) ||| bI (Xv (pb j)))) hx hb hr (fun tt ht hW => ⟨_, rfl, by rw [show ty j = 1 from nI_inj (b := 1) c_11 (by have := (hM.2.1 j hnj hj).2.1; omega) (by decide)]; exact (gI_d _ _).2.1, ht⟩) (fun _ h => by cases h) dX6_made_83
    · refine hk_ti 2 c_11 ?_
      refine lv_tableIn (tgt := 84) (off := 42) hx hb dX6_made_42 (by decide) (by decide) rfl (by decide) ?_
      refine lv_iload_n hx hb dX6_made_84 rfl (lv_at hl 1 rfl) ?_
      refine lv_iload_n hx hb dX6_made_85 rfl (lv_at hl 0 rfl) ?_
      refine lv_ixor hx hb dX6_made_86 ?_
      exact W.iret (v := (bI (Xv (pa j)) ^^^ bI (Xv (pb j)))) hx hb hr (fun tt ht hW => ⟨_, rfl, by rw [show ty j = 2 from nI_inj (b := 2) c_11 (by have := (hM.2.1 j hnj hj).2.1; omega) (by decide)]; exact (gI_d _ _).2.2.1, ht⟩) (fun _ h => by cases h) dX6_made_87
    · refine hk_ti 3 c_11 ?_
      refine lv_tableIn (tgt := 88) (off := 46) hx hb dX6_made_42 (by decide) (by decide) rfl (by decide) ?_
      refine lv_iconst (v := 1) hx hb dX6_made_88 (by decide) ?_
      refine lv_iload_n hx hb dX6_made_89 rfl (lv_at hl 1 rfl) ?_
      refine lv_iload_n hx hb dX6_made_90 rfl (lv_at hl 0 rfl) ?_
      refine lv_iand hx hb dX6_made_91 ?_
      refine lv_isub hx hb dX6_made_92 ?_
      exact W.iret (v := ((1 : Int32) - (bI (Xv (pa j)) &&& bI (Xv (pb j))))) hx hb hr (fun tt ht hW => ⟨_, rfl, by rw [show ty j = 3 from nI_inj (b := 3) c_11 (by have := (hM.2.1 j hnj hj).2.1; omega) (by decide)]; exact (gI_d _ _).2.2.2.1, ht⟩) (fun _ h => by cases h) dX6_made_93
    · refine hk_ti 4 c_11 ?_
      refine lv_tableIn (tgt := 94) (off := 52) hx hb dX6_made_42 (by decide) (by decide) rfl (by decide) ?_
      refine lv_iconst (v := 1) hx hb dX6_made_94 (by decide) ?_
      refine lv_iload_n hx hb dX6_made_95 rfl (lv_at hl 1 rfl) ?_
      refine lv_iload_n hx hb dX6_made_96 rfl (lv_at hl 0 rfl) ?_
      refine lv_ior hx hb dX6_made_97 ?_
      refine lv_isub hx hb dX6_made_98 ?_
      exact W.iret (v := ((1 : Int32) - (bI (Xv (pa j)) ||| bI (Xv (pb j))))) hx hb hr (fun tt ht hW => ⟨_, rfl, by rw [show ty j = 4 from nI_inj (b := 4) c_11 (by have := (hM.2.1 j hnj hj).2.1; omega) (by decide)]; exact (gI_d _ _).2.2.2.2.1, ht⟩) (fun _ h => by cases h) dX6_made_99
    · refine lv_tableOut (tgt := 100) hx hb dX6_made_42 c_11 (by decide) ?_
      refine lv_iconst (v := 1) hx hb dX6_made_100 (by decide) ?_
      refine lv_iload_n hx hb dX6_made_101 rfl (lv_at hl 1 rfl) ?_
      refine lv_isub hx hb dX6_made_102 ?_
      exact W.iret (v := ((1 : Int32) - bI (Xv (pa j)))) hx hb hr (fun tt ht hW => ⟨_, rfl, by rw [show ty j = 5 by have h9 := c_11; rw [nI_toInt (by have := (hM.2.1 j hnj hj).2.1; omega)] at h9; have := (hM.2.1 j hnj hj).2.1; omega]; exact (gI_d _ _).2.2.2.2.2, ht⟩) (fun _ h => by cases h) dX6_made_103
  · have c_5h : nI (ty j) = (5 : Int32) := c_5
    refine lv_iconst (v := 0) hx hb dX6_made_21 (by decide) ?_
    refine lv_goto (tgt := 36) hx hb dX6_made_22 (by decide) ?_
    refine lv_istore_n (lv' := [(3, .int 0), (2, .int (bI (Xv (pa j)))), (0, .ref mo), (1, .int (nI j))]) hx hb dX6_made_36 rfl hl (by decide) rfl (fun ls hl => ?_)
    refine lv_aload_n hx hb dX6_made_37 rfl (lv_at hl 2 rfl) ?_
    refine lv_iload_n hx hb dX6_made_38 rfl (lv_at hl 3 rfl) ?_
    refine hk_csi (va_runV (As := [.int (nI j)]) (rest := []) ⟨hx, hb, hml, hown, hts⟩ (c6_typeAt l D g ti mo ms mr mk mt mv me fs km ln sp rs ws n N o cd wt ty pa pb vo nm j hC hM hj) (cwV 1 hts gX6_made_X6_typeAt rfl rfl rfl (by decide +kernel) ⟨Nat.le_of_ble_eq_true rfl, Nat.le_of_ble_eq_true rfl⟩) (hk_roV hE hP hS 6 rfl rfl [0, 1] rfl rfl) rfl rfl hl.1 rfl (lv_room (Nat.le_of_ble_eq_true rfl)) dX6_made_39 ⟨Nat.zero_le _, Nat.zero_le _⟩) (fun r_12 hr_13 => ?_)
    subst hr_13
    refine hk_ti (nI (ty j)) (if_neg (Nat.not_lt.mpr hnj)) ?_
    rcases hk_sw0_4 (nI (ty j)) with c_15 | c_15 | c_15 | c_15 | c_15 | c_15
    · refine hk_ti 0 c_15 ?_
      refine lv_tableIn (tgt := 76) (off := 34) hx hb dX6_made_42 (by decide) (by decide) rfl (by decide) ?_
      refine lv_iload_n hx hb dX6_made_76 rfl (lv_at hl 1 rfl) ?_
      refine lv_iload_n hx hb dX6_made_77 rfl (lv_at hl 0 rfl) ?_
      refine lv_iand hx hb dX6_made_78 ?_
      exact W.iret (v := (bI (Xv (pa j)) &&& (0 : Int32))) hx hb hr (fun tt ht hW => ⟨_, rfl, absurd (c_5.symm.trans c_15) (by decide), ht⟩) (fun _ h => by cases h) dX6_made_79
    · refine hk_ti 1 c_15 ?_
      refine lv_tableIn (tgt := 80) (off := 38) hx hb dX6_made_42 (by decide) (by decide) rfl (by decide) ?_
      refine lv_iload_n hx hb dX6_made_80 rfl (lv_at hl 1 rfl) ?_
      refine lv_iload_n hx hb dX6_made_81 rfl (lv_at hl 0 rfl) ?_
      refine lv_ior hx hb dX6_made_82 ?_
      exact W.iret (v := (bI (Xv (pa j)) ||| (0 : Int32))) hx hb hr (fun tt ht hW => ⟨_, rfl, absurd (c_5.symm.trans c_15) (by decide), ht⟩) (fun _ h => by cases h) dX6_made_83
    · refine hk_ti 2 c_15 ?_
      refine lv_tableIn (tgt := 84) (off := 42) hx hb dX6_made_42 (by decide) (by decide) rfl (by decide) ?_
      refine lv_iload_n hx hb dX6_made_84 rfl (lv_at hl 1 rfl) ?_
      refine lv_iload_n hx hb dX6_made_85 rfl (lv_at hl 0 rfl) ?_
      refine lv_ixor hx hb dX6_made_86 ?_
      exact W.iret (v := (bI (Xv (pa j)) ^^^ (0 : Int32))) hx hb hr (fun tt ht hW => ⟨_, rfl, absurd (c_5.symm.trans c_15) (by decide), ht⟩) (fun _ h => by cases h) dX6_made_87
    · refine hk_ti 3 c_15 ?_
      refine lv_tableIn (tgt := 88) (off := 46) hx hb dX6_made_42 (by decide) (by decide) rfl (by decide) ?_
      refine lv_iconst (v := 1) hx hb dX6_made_88 (by decide) ?_
      refine lv_iload_n hx hb dX6_made_89 rfl (lv_at hl 1 rfl) ?_
      refine lv_iload_n hx hb dX6_made_90 rfl (lv_at hl 0 rfl) ?_
      refine lv_iand hx hb dX6_made_91 ?_
      refine lv_isub hx hb dX6_made_92 ?_
      exact W.iret (v := ((1 : Int32) - (bI (Xv (pa j)) &&& (0 : Int32)))) hx hb hr (fun tt ht hW => ⟨_, rfl, absurd (c_5.symm.trans c_15) (by decide), ht⟩) (fun _ h => by cases h) dX6_made_93
    · refine hk_ti 4 c_15 ?_
      refine lv_tableIn (tgt := 94) (off := 52) hx hb dX6_made_42 (by decide) (by decide) rfl (by decide) ?_
      refine lv_iconst (v := 1) hx hb dX6_made_94 (by decide) ?_
      refine lv_iload_n hx hb dX6_made_95 rfl (lv_at hl 1 rfl) ?_
      refine lv_iload_n hx hb dX6_made_96 rfl (lv_at hl 0 rfl) ?_
      refine lv_ior hx hb dX6_made_97 ?_
      refine lv_isub hx hb dX6_made_98 ?_
      exact W.iret (v := ((1 : Int32) - (bI (Xv (pa j)) ||| (0 : Int32)))) hx hb hr (fun tt ht hW => ⟨_, rfl, absurd (c_5.symm.trans c_15) (by decide), ht⟩) (fun _ h => by cases h) dX6_made_99
    · refine lv_tableOut (tgt := 100) hx hb dX6_made_42 c_15 (by decide) ?_
      refine lv_iconst (v := 1) hx hb dX6_made_100 (by decide) ?_
      refine lv_iload_n hx hb dX6_made_101 rfl (lv_at hl 1 rfl) ?_
      refine lv_isub hx hb dX6_made_102 ?_
      exact W.iret (v := ((1 : Int32) - bI (Xv (pa j)))) hx hb hr (fun tt ht hW => ⟨_, rfl, by rw [show ty j = 5 by have h9 := c_15; rw [nI_toInt (by have := (hM.2.1 j hnj hj).2.1; omega)] at h9; have := (hM.2.1 j hnj hj).2.1; omega]; exact (gI_d _ _).2.2.2.2.2, ht⟩) (fun _ h => by cases h) dX6_made_103
set_option maxHeartbeats 4000000 in
set_option maxRecDepth 100000 in
theorem c6_told (l : Launch) (D : va_G) (g : hk_G) (ti : Nat) (sz : Nat) (mo : Nat) (ms : Nat) (mr : Nat) (mk : Nat) (mt : Nat) (mv : Nat) (me : Nat) (fs : Nat → Int32) (km : Nat) (ln : Nat) (sp : Nat) (rs : Nat) (ws : Nat) (fv : Nat → Int32) (n : Nat) (N : Nat) (o : Nat) (cd : Nat) (wt : Nat) (ty : Nat → Nat) (pa : Nat → Nat) (pb : Nat → Nat) (vo : Nat → Nat) (nm : Int64) (w : Nat) (f : Int32) (hC : Cok n N o cd wt) (hM : MR n N o cd wt ty pa pb vo nm fs) (hw : w < 64) (hf : fK f) : Met l yX6_told wsX6_told ({ frames := 2, cells := 0, slots := 0, locals := 45 }) (va_Pc [.ref mo, .int (nI w), .int f] (hk_In D g ti [(mo, .inr (6, [.ref ms, .ref mr, .ref mk, .int (nI km), .ref mt, .int (nI ln), .int (nI sp), .int (nI rs), .int (nI ws), .ref mv, .ref me])), (ms, .inl (g.2.1, 147, .inl fs)), (mv, .inl (g.2.1, 30, .inl fv))] sz)) (va_Qi (S := Nat → Int32) (fun r _ => r = nI (wd (oB n ty pa pb vo f w) o)) (fun u => hk_Out D (va_A [(mo, .inr (6, [.ref ms, .ref mr, .ref mk, .int (nI km), .ref mt, .int (nI ln), .int (nI sp), .int (nI rs), .int (nI ws), .ref mv, .ref me])), (ms, .inl (g.2.1, 147, .inl fs)), (mv, .inl (g.2.1, 30, .inl fv))] sz) (match u with | f' => [(mo, .inr (6, [.ref ms, .ref mr, .ref mk, .int (nI km), .ref mt, .int (nI ln), .int (nI sp), .int (nI rs), .int (nI ws), .ref mv, .ref me])), (ms, .inl (g.2.1, 147, .inl fs)), (mv, .inl (g.2.1, 30, .inl f'))])) (va_A [(mo, .inr (6, [.ref ms, .ref mr, .ref mk, .int (nI km), .ref mt, .int (nI ln), .int (nI sp), .int (nI rs), .int (nI ws), .ref mv, .ref me])), (ms, .inl (g.2.1, 147, .inl fs)), (mv, .inl (g.2.1, 30, .inl fv))] sz)) 0 0 (va_A [(mo, .inr (6, [.ref ms, .ref mr, .ref mk, .int (nI km), .ref mt, .int (nI ln), .int (nI sp), .int (nI rs), .int (nI ws), .ref mv, .ref me])), (ms, .inl (g.2.1, 147, .inl fs)), (mv, .inl (g.2.1, 30, .inl fv))] sz) := by
  refine Met.ofW (cc := cX6_told) (maxL := 5) (ret := (some .int)) (by decide) rfl ?_
  intro p e s m args below meth c s₁ Bd hml hv
  obtain ⟨rfl, hsz, hP, hD0, hE⟩ := hv
  have hx := Bd.exec
  have hb := Bd.bytes
  have hr := Bd.returns
  have hts := atoms_spec (ws := wsX6_told) Bd.pre
  have hown : s.vm.findClass RX6 = some m.cls := findClass_of_methodNamed Bd.named
  have hlocks := Bd.notSynchronized
  have hK := hE.1
  have hi6 : ∀ w ∈ wsX60, w ∈ wsX6_told := fun w h => List.mem_cons_of_mem _ (List.mem_append_right _ h)
  subst hsz
  have hD := hD0.self (sz := s.heap.size)
  generalize hAe : va_A [(mo, .inr (6, [.ref ms, .ref mr, .ref mk, .int (nI km), .ref mt, .int (nI ln), .int (nI sp), .int (nI rs), .int (nI ws), .ref mv, .ref me])), (ms, .inl (g.2.1, 147, .inl fs)), (mv, .inl (g.2.1, 30, .inl fv))] s.heap.size = A at hD hE ⊢
  have hA : ∀ q : Nat, s.heap.size ≤ q → A q := fun q h => by rw [← hAe]; exact Or.inr h
  have hS : va_S A s.heap s.heap [] := va_S.rf
  have hl := lv_entry ([.ref mo, .int (nI w), .int f]) (n := 5) (Nat.le_of_ble_eq_true rfl)
  rw [lg_entry_eq]
  generalize (lg_sl ([.ref mo, .int (nI w), .int f]) ++ List.replicate (5 - (lg_sl ([.ref mo, .int (nI w), .int f])).length) Slot.unset).toArray = ls at hl ⊢
  have hl : lv_has ls 5 [(0, .ref mo), (1, .int (nI w)), (2, .int f)] := hl
  refine lv_iconst (v := 0) hx hb dX6_told_0 (by decide) ?_
  refine lv_istore_n (lv' := [(3, .int 0), (0, .ref mo), (1, .int (nI w)), (2, .int f)]) hx hb dX6_told_1 rfl hl (by decide) rfl (fun ls hl => ?_)
  have loop2 : ∀ (fuel : Nat) (i : Nat) (gv : Nat → Int32), (N - i) < fuel → (i ≤ N) → (∀ k, k < i → gv k = bI (sv n ty pa pb (Ff f) w k)) → ∀ (H : Heap) (locs : List Loc), va_P D vwCl [(mo, .inr (6, [.ref ms, .ref mr, .ref mk, .int (nI km), .ref mt, .int (nI ln), .int (nI sp), .int (nI rs), .int (nI ws), .ref mv, .ref me])), (ms, .inl (g.2.1, 147, .inl fs)), (mv, .inl (g.2.1, 30, .inl gv))] H → va_D A [(mo, .inr (6, [.ref ms, .ref mr, .ref mk, .int (nI km), .ref mt, .int (nI ln), .int (nI sp), .int (nI rs), .int (nI ws), .ref mv, .ref me])), (ms, .inl (g.2.1, 147, .inl fs)), (mv, .inl (g.2.1, 30, .inl gv))] → va_S A s.heap H locs → ∀ ls : Array Slot, lv_has ls 5 [(3, .int (nI i)), (0, .ref mo), (1, .int (nI w)), (2, .int f)] → W p l e (headSpec wsX6_told ({ frames := 2, cells := 0, slots := 0, locals := 45 })).room s m ([.ref mo, .int (nI w), .int f] : List Value).toArray below meth c H locs 0 0 (MQ below (va_Qi (S := Nat → Int32) (fun r _ => r = nI (wd (oB n ty pa pb vo f w) o)) (fun u => hk_Out D A (match u with | f' => [(mo, .inr (6, [.ref ms, .ref mr, .ref mk, .int (nI km), .ref mt, .int (nI ln), .int (nI sp), .int (nI rs), .int (nI ws), .ref mv, .ref me])), (ms, .inl (g.2.1, 147, .inl fs)), (mv, .inl (g.2.1, 30, .inl f'))])) A) ([.ref mo, .int (nI w), .int f] : List Value).toArray s 0 0 A) (F0 m 2 ls []) := by
    intro fuel
    induction fuel with
    | zero => intro i gv hm; exact absurd hm (Nat.not_lt_zero _)
    | succ fuel ih_2 =>
      intro i gv hm_2 hi hV H locs hP hD hS ls hl
      refine lv_iload_n hx hb dX6_told_2 rfl (lv_at hl 0 rfl) ?_
      refine lv_aload_n hx hb dX6_told_3 rfl (lv_at hl 1 rfl) ?_
      refine va_get (D := D) (ci := 6) (v := .ref ms) (C := RX6) (T := TX6) (N := 11) hx hb hts hi6 hown hK hP 0 rfl rfl 0 (by decide) (hts (.fieldLink RX6 7 "SelfCheckingCircuitModel" "s" "[I") (by decide +kernel)) (fun _ h9 => h9) rfl dX6_told_4 ?_
      refine hk_csi (va_runS (As := [.ref ms]) (rest := [.int (nI i)]) ⟨hx, hb, hml, hown, hts⟩ (c6_nodesOf l D g ti ms fs ) (va_cwS 1 hts gX6_told_X6_nodesOf rfl rfl rfl (by decide +kernel) ⟨Nat.le_of_ble_eq_true rfl, Nat.le_of_ble_eq_true rfl⟩) (hk_roS hE hP hS [1] rfl) rfl rfl hl.1 rfl (lv_room (Nat.le_of_ble_eq_true rfl)) dX6_told_7 ⟨Nat.zero_le _, Nat.zero_le _⟩) (fun r_1 hr_2 => ?_)
      subst hr_2
      refine hk_ti (nI N) (by rw [hM.1.1, hM.1.2.1, nI_add, Nat.add_sub_cancel' hC.2.2.1]) ?_
      refine lv_icmp_ge (tgt := 65) hx hb dX6_told_10 (by decide) (fun c_3 => ?_) (fun c_3 => ?_)
      · have c_3h : nI N ≤ nI i := c_3
        refine lv_iconst (v := 0) hx hb dX6_told_65 (by decide) ?_
        refine lv_istore_n (lv' := [(3, .int 0), (0, .ref mo), (1, .int (nI w)), (2, .int f)]) hx hb dX6_told_66 rfl hl (by decide) rfl (fun ls hl => ?_)
        refine lv_iconst (v := 0) hx hb dX6_told_67 (by decide) ?_
        refine lv_istore (lv' := [(4, .int 0), (3, .int 0), (0, .ref mo), (1, .int (nI w)), (2, .int f)]) hx hb dX6_told_68 hl (by decide) rfl (fun ls hl => ?_)
        have loop70 : ∀ (fuel : Nat) (k : Nat), (o - k) < fuel → (k ≤ o) → ∀ (H : Heap) (locs : List Loc), va_P D vwCl [(mo, .inr (6, [.ref ms, .ref mr, .ref mk, .int (nI km), .ref mt, .int (nI ln), .int (nI sp), .int (nI rs), .int (nI ws), .ref mv, .ref me])), (ms, .inl (g.2.1, 147, .inl fs)), (mv, .inl (g.2.1, 30, .inl gv))] H → va_D A [(mo, .inr (6, [.ref ms, .ref mr, .ref mk, .int (nI km), .ref mt, .int (nI ln), .int (nI sp), .int (nI rs), .int (nI ws), .ref mv, .ref me])), (ms, .inl (g.2.1, 147, .inl fs)), (mv, .inl (g.2.1, 30, .inl gv))] → va_S A s.heap H locs → ∀ ls : Array Slot, lv_has ls 5 [(4, .int (nI k)), (3, .int (nI (wd (oB n ty pa pb vo f w) k))), (0, .ref mo), (1, .int (nI w)), (2, .int f)] → W p l e (headSpec wsX6_told ({ frames := 2, cells := 0, slots := 0, locals := 45 })).room s m ([.ref mo, .int (nI w), .int f] : List Value).toArray below meth c H locs 0 0 (MQ below (va_Qi (S := Nat → Int32) (fun r _ => r = nI (wd (oB n ty pa pb vo f w) o)) (fun u => hk_Out D A (match u with | f' => [(mo, .inr (6, [.ref ms, .ref mr, .ref mk, .int (nI km), .ref mt, .int (nI ln), .int (nI sp), .int (nI rs), .int (nI ws), .ref mv, .ref me])), (ms, .inl (g.2.1, 147, .inl fs)), (mv, .inl (g.2.1, 30, .inl f'))])) A) ([.ref mo, .int (nI w), .int f] : List Value).toArray s 0 0 A) (F0 m 70 ls []) := by
          intro fuel
          induction fuel with
          | zero => intro k hm; exact absurd hm (Nat.not_lt_zero _)
          | succ fuel ih_70 =>
            intro k hm_70 hk H locs hP hD hS ls hl
            refine lv_iload hx hb dX6_told_70 (lv_at hl 0 rfl) ?_
            refine lv_aload_n hx hb dX6_told_72 rfl (lv_at hl 2 rfl) ?_
            refine va_get (D := D) (ci := 6) (v := .ref ms) (C := RX6) (T := TX6) (N := 11) hx hb hts hi6 hown hK hP 0 rfl rfl 0 (by decide) (hts (.fieldLink RX6 7 "SelfCheckingCircuitModel" "s" "[I") (by decide +kernel)) (fun _ h9 => h9) rfl dX6_told_73 ?_
            refine lv_bipush (v := 74) hx hb dX6_told_76 (by decide) ?_
            refine va_iald hx hb hK hP 1 1 rfl rfl (by unfold vp_in; decide) dX6_told_78 ?_
            refine hk_ti (fs 74) (congrArg fs (by decide)) ?_
            refine hk_ti (nI o) (hM.1.2.2.1) ?_
            refine lv_icmp_ge (tgt := 109) hx hb dX6_told_79 (by decide) (fun c_4 => ?_) (fun c_4 => ?_)
            · have c_4h : nI o ≤ nI k := c_4
              refine lv_iload_n hx hb dX6_told_109 rfl (lv_at hl 1 rfl) ?_
              have hP9 := hP.sub (ws' := [(mo, .inr (6, [.ref ms, .ref mr, .ref mk, .int (nI km), .ref mt, .int (nI ln), .int (nI sp), .int (nI rs), .int (nI ws), .ref mv, .ref me])), (ms, .inl (g.2.1, 147, .inl fs)), (mv, .inl (g.2.1, 30, .inl gv))]) [0, 1, 2] rfl
              have hD9 := hD.sub (ws' := [(mo, .inr (6, [.ref ms, .ref mr, .ref mk, .int (nI km), .ref mt, .int (nI ln), .int (nI sp), .int (nI rs), .int (nI ws), .ref mv, .ref me])), (ms, .inl (g.2.1, 147, .inl fs)), (mv, .inl (g.2.1, 30, .inl gv))]) [0, 1, 2] (by decide) rfl
              exact W.iret (v := nI (wd (oB n ty pa pb vo f w) k)) hx hb hr (fun tt ht hW => ⟨⟨_, gv, rfl, by rw [show k = o by have := hk_ge o c_4 (hi := by have := hC.2.2.2.2.1; omega) (hn := by have := hC.2.2.2.2.1; omega); omega], by rw [ht]; exact hP9, hD9⟩, hS.F ht⟩) hS.2.2 dX6_told_110
            · have c_4h : ¬ nI o ≤ nI k := c_4
              refine lv_iload_n hx hb dX6_told_82 rfl (lv_at hl 1 rfl) ?_
              refine lv_aload_n hx hb dX6_told_83 rfl (lv_at hl 2 rfl) ?_
              refine va_get (D := D) (ci := 6) (v := .ref mv) (C := RX6) (T := TX6) (N := 11) hx hb hts hi6 hown hK hP 0 rfl rfl 9 (by decide) (hts (.fieldLink RX6 22 "SelfCheckingCircuitModel" "value" "[I") (by decide +kernel)) (fun _ h9 => h9) rfl dX6_told_84 ?_
              refine lv_aload_n hx hb dX6_told_87 rfl (lv_at hl 2 rfl) ?_
              refine va_get (D := D) (ci := 6) (v := .ref ms) (C := RX6) (T := TX6) (N := 11) hx hb hts hi6 hown hK hP 0 rfl rfl 0 (by decide) (hts (.fieldLink RX6 7 "SelfCheckingCircuitModel" "s" "[I") (by decide +kernel)) (fun _ h9 => h9) rfl dX6_told_88 ?_
              refine lv_bipush (v := 75) hx hb dX6_told_91 (by decide) ?_
              refine lv_iload hx hb dX6_told_93 (lv_at hl 0 rfl) ?_
              refine lv_iadd hx hb dX6_told_95 ?_
              refine hk_ti (nI (75 + k)) (nI_add 75 k) ?_
              refine va_iald hx hb hK hP 1 1 rfl rfl (vp_in_nI (N := 147) (by have := (hk_nge o c_4 (hi := by have := hC.2.2.2.2.1; omega) (hn := by have := hC.2.2.2.2.1; omega)); have := hC.2.2.2.2.1; omega) (by decide)) dX6_told_96 ?_
              refine hk_ti (fs (75 + k)) (congrArg fs (nI_clamp (by have := hC.2.2.2.2.1; omega))) ?_
              refine hk_ti (nI (vo k)) ((hM.2.2.1 k (hk_nge o c_4 (hi := by have := hC.2.2.2.2.1; omega) (hn := by have := hC.2.2.2.2.1; omega))).1) ?_
              refine va_iald hx hb hK hP 2 1 rfl rfl (vp_in_nI (N := 30) (by have := (hM.2.2.1 k (hk_nge o c_4 (hi := by have := hC.2.2.2.2.1; omega) (hn := by have := hC.2.2.2.2.1; omega))).2; have := hC.2.2.2.1; have := hC.2.1; omega) (by decide)) dX6_told_97 ?_
              refine hk_ti (gv (vo k)) (congrArg gv (nI_clamp (by have := (hM.2.2.1 k (hk_nge o c_4 (hi := by have := hC.2.2.2.2.1; omega) (hn := by have := hC.2.2.2.2.1; omega))).2; have := hC.2.2.2.1; have := hC.2.1; omega))) ?_
              refine hk_ti (bI (sv n ty pa pb (Ff f) w (vo k))) (hV _ (by have := (hM.2.2.1 k (hk_nge o c_4 (hi := by have := hC.2.2.2.2.1; omega) (hn := by have := hC.2.2.2.2.1; omega))).2; have := hk_ge N c_3 (hi := by have := hC.2.2.2.1; have := hC.2.1; omega) (hn := by have := hC.2.2.2.1; have := hC.2.1; omega); omega)) ?_
              refine lv_iload hx hb dX6_told_98 (lv_at hl 0 rfl) ?_
              refine lv_ishl hx hb dX6_told_100 ?_
              refine lv_ior hx hb dX6_told_101 ?_
              refine hk_ti (nI (wd (oB n ty pa pb vo f w) (k + 1))) (wd_orI k (by have := (hk_nge o c_4 (hi := by have := hC.2.2.2.2.1; omega) (hn := by have := hC.2.2.2.2.1; omega)); have := hC.2.2.2.2.1; omega) _ (Nat.lt_of_lt_of_le (wd_lt _ k) (Nat.pow_le_pow_right (by decide) (by have := (hk_nge o c_4 (hi := by have := hC.2.2.2.2.1; omega) (hn := by have := hC.2.2.2.2.1; omega)); have := hC.2.2.2.2.1; omega : k ≤ 6))) (wd_lt _ k) _) ?_
              refine lv_istore_n (lv' := [(3, .int (nI (wd (oB n ty pa pb vo f w) (k + 1)))), (4, .int (nI k)), (0, .ref mo), (1, .int (nI w)), (2, .int f)]) hx hb dX6_told_102 rfl hl (by decide) rfl (fun ls hl => ?_)
              refine lv_iinc (v := (nI (k + 1))) (lv' := [(4, .int (nI (k + 1))), (3, .int (nI (wd (oB n ty pa pb vo f w) (k + 1)))), (0, .ref mo), (1, .int (nI w)), (2, .int f)]) hx hb dX6_told_103 hl (k := 1) rfl (nI_1 k) (by decide) rfl (fun ls hl => ?_)
              refine lv_goto (tgt := 70) hx hb dX6_told_106 (by decide) ?_
              have hlt2 : k < o := (hk_nge o c_4 (hi := by have := hC.2.2.2.2.1; omega) (hn := by have := hC.2.2.2.2.1; omega))
              exact ih_70 (k + 1) (by omega) (by omega) _ _ hP hD hS _ (lv_sub hl [0, 1, 2, 3, 4] rfl)
        exact loop70 _ 0 (Nat.lt_succ_self _) (Nat.zero_le _) _ _ hP hD hS _ (lv_sub hl [0, 1, 2, 3, 4] rfl)
      · have c_3h : ¬ nI N ≤ nI i := c_3
        refine lv_aload_n hx hb dX6_told_13 rfl (lv_at hl 1 rfl) ?_
        refine va_get (D := D) (ci := 6) (v := .ref mv) (C := RX6) (T := TX6) (N := 11) hx hb hts hi6 hown hK hP 0 rfl rfl 9 (by decide) (hts (.fieldLink RX6 22 "SelfCheckingCircuitModel" "value" "[I") (by decide +kernel)) (fun _ h9 => h9) rfl dX6_told_14 ?_
        refine lv_iload_n hx hb dX6_told_17 rfl (lv_at hl 0 rfl) ?_
        refine lv_iload_n hx hb dX6_told_18 rfl (lv_at hl 3 rfl) ?_
        refine lv_if_lt (tgt := 35) hx hb dX6_told_19 (by decide) (fun c_5 => ?_) (fun c_5 => ?_)
        · have c_5h : f < (0 : Int32) := c_5
          refine lv_iload_n hx hb dX6_told_35 rfl (lv_at hl 0 rfl) ?_
          refine lv_aload_n hx hb dX6_told_36 rfl (lv_at hl 1 rfl) ?_
          refine va_get (D := D) (ci := 6) (v := .ref ms) (C := RX6) (T := TX6) (N := 11) hx hb hts hi6 hown hK hP 0 rfl rfl 0 (by decide) (hts (.fieldLink RX6 7 "SelfCheckingCircuitModel" "s" "[I") (by decide +kernel)) (fun _ h9 => h9) rfl dX6_told_37 ?_
          refine lv_iconst (v := 0) hx hb dX6_told_40 (by decide) ?_
          refine va_iald hx hb hK hP 1 1 rfl rfl (by unfold vp_in; decide) dX6_told_41 ?_
          refine hk_ti (fs 0) (congrArg fs (by decide)) ?_
          refine hk_ti (nI n) (hM.1.1) ?_
          refine lv_icmp_ge (tgt := 53) hx hb dX6_told_42 (by decide) (fun c_6 => ?_) (fun c_6 => ?_)
          · have c_6h : nI n ≤ nI i := c_6
            refine lv_aload_n hx hb dX6_told_53 rfl (lv_at hl 1 rfl) ?_
            refine lv_iload_n hx hb dX6_told_54 rfl (lv_at hl 0 rfl) ?_
            refine hk_csi (va_runV (As := [.int (nI i)]) (rest := [.int (nI i), .ref mv]) ⟨hx, hb, hml, hown, hts⟩ (c6_made l D g ti mo ms mr mk mt mv me fs km ln sp rs ws gv n N o cd wt ty pa pb vo nm (sv n ty pa pb (Ff f) w) i hC hM (hk_ge n c_6 (hi := by have := hC.2.2.2.1; have := hC.2.1; omega) (hn := by have := hC.2.2.2.1; have := hC.2.1; omega)) (hk_nge N c_3 (hi := by have := hC.2.2.2.1; have := hC.2.1; omega) (hn := by have := hC.2.2.2.1; have := hC.2.1; omega)) hV) (cwV 1 hts gX6_told_X6_made rfl rfl rfl (by decide +kernel) ⟨Nat.le_of_ble_eq_true rfl, Nat.le_of_ble_eq_true rfl⟩) (hk_roV hE hP hS 6 rfl rfl [0, 1, 2] rfl rfl) rfl rfl hl.1 rfl (lv_room (Nat.le_of_ble_eq_true rfl)) dX6_told_55 ⟨Nat.zero_le _, Nat.zero_le _⟩) (fun r_7 hr_8 => ?_)
            subst hr_8
            refine va_iast hx hb hK hP hD hS 2 1 rfl rfl (vp_in_nI (N := 30) (by have := (hk_nge N c_3 (hi := by have := hC.2.2.2.1; have := hC.2.1; omega) (hn := by have := hC.2.2.2.1; have := hC.2.1; omega)); have := hC.2.2.2.1; have := hC.2.1; omega) (by decide)) dX6_told_58 (fun H locs hP hD hS => ?_)
            rw [show (nI i).toNatClampNeg = i from nI_clamp (by have := hC.2.2.2.1; have := hC.2.1; omega)] at hP hD
            have hP : va_P D vwCl [(mo, .inr (6, [.ref ms, .ref mr, .ref mk, .int (nI km), .ref mt, .int (nI ln), .int (nI sp), .int (nI rs), .int (nI ws), .ref mv, .ref me])), (ms, .inl (g.2.1, 147, .inl fs)), (mv, .inl (g.2.1, 30, .inl (upd gv i (bI (gB (ty i) ((sv n ty pa pb (Ff f) w) (pa i)) ((sv n ty pa pb (Ff f) w) (pb i)))))))] H := hP
            have hD : va_D A [(mo, .inr (6, [.ref ms, .ref mr, .ref mk, .int (nI km), .ref mt, .int (nI ln), .int (nI sp), .int (nI rs), .int (nI ws), .ref mv, .ref me])), (ms, .inl (g.2.1, 147, .inl fs)), (mv, .inl (g.2.1, 30, .inl (upd gv i (bI (gB (ty i) ((sv n ty pa pb (Ff f) w) (pa i)) ((sv n ty pa pb (Ff f) w) (pb i)))))))] := hD
            refine lv_iinc (v := (nI (i + 1))) (lv' := [(3, .int (nI (i + 1))), (0, .ref mo), (1, .int (nI w)), (2, .int f)]) hx hb dX6_told_59 hl (k := 0) rfl (nI_1 i) (by decide) rfl (fun ls hl => ?_)
            refine lv_goto (tgt := 2) hx hb dX6_told_62 (by decide) ?_
            have hlt : i < N := (hk_nge N c_3 (hi := by have := hC.2.2.2.1; have := hC.2.1; omega) (hn := by have := hC.2.2.2.1; have := hC.2.1; omega))
            exact ih_2 (i + 1) (upd gv i (bI (gB (ty i) ((sv n ty pa pb (Ff f) w) (pa i)) ((sv n ty pa pb (Ff f) w) (pb i))))) (by omega) (by omega) (hk_up (fun k v => v = bI (sv n ty pa pb (Ff f) w k)) hV (by rw [sv_g (Ff_lt hf c_5 (by have := hC.2.2.2.1; have := hC.2.1; omega)) (hk_ge n c_6 (hi := by have := hC.2.2.2.1; have := hC.2.1; omega) (hn := by have := hC.2.2.2.1; have := hC.2.1; omega)) (hM.2.1 i (hk_ge n c_6 (hi := by have := hC.2.2.2.1; have := hC.2.1; omega) (hn := by have := hC.2.2.2.1; have := hC.2.1; omega)) hlt).2.2.2.1 (fun q => ((hM.2.1 i (hk_ge n c_6 (hi := by have := hC.2.2.2.1; have := hC.2.1; omega) (hn := by have := hC.2.2.2.1; have := hC.2.1; omega)) hlt).2.2.2.2 q).2) (hM.2.1 i (hk_ge n c_6 (hi := by have := hC.2.2.2.1; have := hC.2.1; omega) (hn := by have := hC.2.2.2.1; have := hC.2.1; omega)) hlt).2.1])) _ _ hP hD hS _ (lv_sub hl [0, 1, 2, 3] rfl)
          · have c_6h : ¬ nI n ≤ nI i := c_6
            refine lv_iload_n hx hb dX6_told_45 rfl (lv_at hl 2 rfl) ?_
            refine lv_iload_n hx hb dX6_told_46 rfl (lv_at hl 0 rfl) ?_
            refine lv_ishr hx hb dX6_told_47 ?_
            refine lv_iconst (v := 1) hx hb dX6_told_48 (by decide) ?_
            refine lv_iand hx hb dX6_told_49 ?_
            refine lv_goto (tgt := 58) hx hb dX6_told_50 (by decide) ?_
            refine va_iast hx hb hK hP hD hS 2 1 rfl rfl (vp_in_nI (N := 30) (by have := (hk_nge N c_3 (hi := by have := hC.2.2.2.1; have := hC.2.1; omega) (hn := by have := hC.2.2.2.1; have := hC.2.1; omega)); have := hC.2.2.2.1; have := hC.2.1; omega) (by decide)) dX6_told_58 (fun H locs hP hD hS => ?_)
            rw [show (nI i).toNatClampNeg = i from nI_clamp (by have := hC.2.2.2.1; have := hC.2.1; omega)] at hP hD
            have hP : va_P D vwCl [(mo, .inr (6, [.ref ms, .ref mr, .ref mk, .int (nI km), .ref mt, .int (nI ln), .int (nI sp), .int (nI rs), .int (nI ws), .ref mv, .ref me])), (ms, .inl (g.2.1, 147, .inl fs)), (mv, .inl (g.2.1, 30, .inl (upd gv i ((nI w >>> (nI i &&& 31)) &&& (1 : Int32)))))] H := hP
            have hD : va_D A [(mo, .inr (6, [.ref ms, .ref mr, .ref mk, .int (nI km), .ref mt, .int (nI ln), .int (nI sp), .int (nI rs), .int (nI ws), .ref mv, .ref me])), (ms, .inl (g.2.1, 147, .inl fs)), (mv, .inl (g.2.1, 30, .inl (upd gv i ((nI w >>> (nI i &&& 31)) &&& (1 : Int32)))))] := hD
            refine lv_iinc (v := (nI (i + 1))) (lv' := [(3, .int (nI (i + 1))), (0, .ref mo), (1, .int (nI w)), (2, .int f)]) hx hb dX6_told_59 hl (k := 0) rfl (nI_1 i) (by decide) rfl (fun ls hl => ?_)
            refine lv_goto (tgt := 2) hx hb dX6_told_62 (by decide) ?_
            have hlt : i < N := (hk_nge N c_3 (hi := by have := hC.2.2.2.1; have := hC.2.1; omega) (hn := by have := hC.2.2.2.1; have := hC.2.1; omega))
            exact ih_2 (i + 1) (upd gv i ((nI w >>> (nI i &&& 31)) &&& (1 : Int32))) (by omega) (by omega) (hk_up (fun k v => v = bI (sv n ty pa pb (Ff f) w k)) hV (by rw [sv_i (Ff_lt hf c_5 (by have := hC.2.2.2.1; have := hC.2.1; omega)) (hk_nge n c_6 (hi := by have := hC.2.2.2.1; have := hC.2.1; omega) (hn := by have := hC.2.2.2.1; have := hC.2.1; omega))]; exact wbit w hw i (by have := hk_nge n c_6 (hi := by have := hC.2.2.2.1; have := hC.2.1; omega) (hn := by have := hC.2.2.2.1; have := hC.2.1; omega); have := hC.2.2.2.1; have := hC.2.1; omega))) _ _ hP hD hS _ (lv_sub hl [0, 1, 2, 3] rfl)
        · have c_5h : ¬ f < (0 : Int32) := c_5
          refine lv_iload_n hx hb dX6_told_22 rfl (lv_at hl 3 rfl) ?_
          refine lv_iconst (v := 2) hx hb dX6_told_23 (by decide) ?_
          refine lv_idiv hx hb dX6_told_24 (by decide) ?_
          refine lv_iload_n hx hb dX6_told_25 rfl (lv_at hl 0 rfl) ?_
          refine lv_icmp_ne (tgt := 35) hx hb dX6_told_26 (by decide) (fun c_9 => ?_) (fun c_9 => ?_)
          · have c_9h : ¬ (f / (2 : Int32)) = nI i := c_9
            refine lv_iload_n hx hb dX6_told_35 rfl (lv_at hl 0 rfl) ?_
            refine lv_aload_n hx hb dX6_told_36 rfl (lv_at hl 1 rfl) ?_
            refine va_get (D := D) (ci := 6) (v := .ref ms) (C := RX6) (T := TX6) (N := 11) hx hb hts hi6 hown hK hP 0 rfl rfl 0 (by decide) (hts (.fieldLink RX6 7 "SelfCheckingCircuitModel" "s" "[I") (by decide +kernel)) (fun _ h9 => h9) rfl dX6_told_37 ?_
            refine lv_iconst (v := 0) hx hb dX6_told_40 (by decide) ?_
            refine va_iald hx hb hK hP 1 1 rfl rfl (by unfold vp_in; decide) dX6_told_41 ?_
            refine hk_ti (fs 0) (congrArg fs (by decide)) ?_
            refine hk_ti (nI n) (hM.1.1) ?_
            refine lv_icmp_ge (tgt := 53) hx hb dX6_told_42 (by decide) (fun c_10 => ?_) (fun c_10 => ?_)
            · have c_10h : nI n ≤ nI i := c_10
              refine lv_aload_n hx hb dX6_told_53 rfl (lv_at hl 1 rfl) ?_
              refine lv_iload_n hx hb dX6_told_54 rfl (lv_at hl 0 rfl) ?_
              refine hk_csi (va_runV (As := [.int (nI i)]) (rest := [.int (nI i), .ref mv]) ⟨hx, hb, hml, hown, hts⟩ (c6_made l D g ti mo ms mr mk mt mv me fs km ln sp rs ws gv n N o cd wt ty pa pb vo nm (sv n ty pa pb (Ff f) w) i hC hM (hk_ge n c_10 (hi := by have := hC.2.2.2.1; have := hC.2.1; omega) (hn := by have := hC.2.2.2.1; have := hC.2.1; omega)) (hk_nge N c_3 (hi := by have := hC.2.2.2.1; have := hC.2.1; omega) (hn := by have := hC.2.2.2.1; have := hC.2.1; omega)) hV) (cwV 1 hts gX6_told_X6_made rfl rfl rfl (by decide +kernel) ⟨Nat.le_of_ble_eq_true rfl, Nat.le_of_ble_eq_true rfl⟩) (hk_roV hE hP hS 6 rfl rfl [0, 1, 2] rfl rfl) rfl rfl hl.1 rfl (lv_room (Nat.le_of_ble_eq_true rfl)) dX6_told_55 ⟨Nat.zero_le _, Nat.zero_le _⟩) (fun r_11 hr_12 => ?_)
              subst hr_12
              refine va_iast hx hb hK hP hD hS 2 1 rfl rfl (vp_in_nI (N := 30) (by have := (hk_nge N c_3 (hi := by have := hC.2.2.2.1; have := hC.2.1; omega) (hn := by have := hC.2.2.2.1; have := hC.2.1; omega)); have := hC.2.2.2.1; have := hC.2.1; omega) (by decide)) dX6_told_58 (fun H locs hP hD hS => ?_)
              rw [show (nI i).toNatClampNeg = i from nI_clamp (by have := hC.2.2.2.1; have := hC.2.1; omega)] at hP hD
              have hP : va_P D vwCl [(mo, .inr (6, [.ref ms, .ref mr, .ref mk, .int (nI km), .ref mt, .int (nI ln), .int (nI sp), .int (nI rs), .int (nI ws), .ref mv, .ref me])), (ms, .inl (g.2.1, 147, .inl fs)), (mv, .inl (g.2.1, 30, .inl (upd gv i (bI (gB (ty i) ((sv n ty pa pb (Ff f) w) (pa i)) ((sv n ty pa pb (Ff f) w) (pb i)))))))] H := hP
              have hD : va_D A [(mo, .inr (6, [.ref ms, .ref mr, .ref mk, .int (nI km), .ref mt, .int (nI ln), .int (nI sp), .int (nI rs), .int (nI ws), .ref mv, .ref me])), (ms, .inl (g.2.1, 147, .inl fs)), (mv, .inl (g.2.1, 30, .inl (upd gv i (bI (gB (ty i) ((sv n ty pa pb (Ff f) w) (pa i)) ((sv n ty pa pb (Ff f) w) (pb i)))))))] := hD
              refine lv_iinc (v := (nI (i + 1))) (lv' := [(3, .int (nI (i + 1))), (0, .ref mo), (1, .int (nI w)), (2, .int f)]) hx hb dX6_told_59 hl (k := 0) rfl (nI_1 i) (by decide) rfl (fun ls hl => ?_)
              refine lv_goto (tgt := 2) hx hb dX6_told_62 (by decide) ?_
              have hlt : i < N := (hk_nge N c_3 (hi := by have := hC.2.2.2.1; have := hC.2.1; omega) (hn := by have := hC.2.2.2.1; have := hC.2.1; omega))
              exact ih_2 (i + 1) (upd gv i (bI (gB (ty i) ((sv n ty pa pb (Ff f) w) (pa i)) ((sv n ty pa pb (Ff f) w) (pb i))))) (by omega) (by omega) (hk_up (fun k v => v = bI (sv n ty pa pb (Ff f) w k)) hV (by rw [sv_g (Ff_n hf c_5 c_9) (hk_ge n c_10 (hi := by have := hC.2.2.2.1; have := hC.2.1; omega) (hn := by have := hC.2.2.2.1; have := hC.2.1; omega)) (hM.2.1 i (hk_ge n c_10 (hi := by have := hC.2.2.2.1; have := hC.2.1; omega) (hn := by have := hC.2.2.2.1; have := hC.2.1; omega)) hlt).2.2.2.1 (fun q => ((hM.2.1 i (hk_ge n c_10 (hi := by have := hC.2.2.2.1; have := hC.2.1; omega) (hn := by have := hC.2.2.2.1; have := hC.2.1; omega)) hlt).2.2.2.2 q).2) (hM.2.1 i (hk_ge n c_10 (hi := by have := hC.2.2.2.1; have := hC.2.1; omega) (hn := by have := hC.2.2.2.1; have := hC.2.1; omega)) hlt).2.1])) _ _ hP hD hS _ (lv_sub hl [0, 1, 2, 3] rfl)
            · have c_10h : ¬ nI n ≤ nI i := c_10
              refine lv_iload_n hx hb dX6_told_45 rfl (lv_at hl 2 rfl) ?_
              refine lv_iload_n hx hb dX6_told_46 rfl (lv_at hl 0 rfl) ?_
              refine lv_ishr hx hb dX6_told_47 ?_
              refine lv_iconst (v := 1) hx hb dX6_told_48 (by decide) ?_
              refine lv_iand hx hb dX6_told_49 ?_
              refine lv_goto (tgt := 58) hx hb dX6_told_50 (by decide) ?_
              refine va_iast hx hb hK hP hD hS 2 1 rfl rfl (vp_in_nI (N := 30) (by have := (hk_nge N c_3 (hi := by have := hC.2.2.2.1; have := hC.2.1; omega) (hn := by have := hC.2.2.2.1; have := hC.2.1; omega)); have := hC.2.2.2.1; have := hC.2.1; omega) (by decide)) dX6_told_58 (fun H locs hP hD hS => ?_)
              rw [show (nI i).toNatClampNeg = i from nI_clamp (by have := hC.2.2.2.1; have := hC.2.1; omega)] at hP hD
              have hP : va_P D vwCl [(mo, .inr (6, [.ref ms, .ref mr, .ref mk, .int (nI km), .ref mt, .int (nI ln), .int (nI sp), .int (nI rs), .int (nI ws), .ref mv, .ref me])), (ms, .inl (g.2.1, 147, .inl fs)), (mv, .inl (g.2.1, 30, .inl (upd gv i ((nI w >>> (nI i &&& 31)) &&& (1 : Int32)))))] H := hP
              have hD : va_D A [(mo, .inr (6, [.ref ms, .ref mr, .ref mk, .int (nI km), .ref mt, .int (nI ln), .int (nI sp), .int (nI rs), .int (nI ws), .ref mv, .ref me])), (ms, .inl (g.2.1, 147, .inl fs)), (mv, .inl (g.2.1, 30, .inl (upd gv i ((nI w >>> (nI i &&& 31)) &&& (1 : Int32)))))] := hD
              refine lv_iinc (v := (nI (i + 1))) (lv' := [(3, .int (nI (i + 1))), (0, .ref mo), (1, .int (nI w)), (2, .int f)]) hx hb dX6_told_59 hl (k := 0) rfl (nI_1 i) (by decide) rfl (fun ls hl => ?_)
              refine lv_goto (tgt := 2) hx hb dX6_told_62 (by decide) ?_
              have hlt : i < N := (hk_nge N c_3 (hi := by have := hC.2.2.2.1; have := hC.2.1; omega) (hn := by have := hC.2.2.2.1; have := hC.2.1; omega))
              exact ih_2 (i + 1) (upd gv i ((nI w >>> (nI i &&& 31)) &&& (1 : Int32))) (by omega) (by omega) (hk_up (fun k v => v = bI (sv n ty pa pb (Ff f) w k)) hV (by rw [sv_i (Ff_n hf c_5 c_9) (hk_nge n c_10 (hi := by have := hC.2.2.2.1; have := hC.2.1; omega) (hn := by have := hC.2.2.2.1; have := hC.2.1; omega))]; exact wbit w hw i (by have := hk_nge n c_10 (hi := by have := hC.2.2.2.1; have := hC.2.1; omega) (hn := by have := hC.2.2.2.1; have := hC.2.1; omega); have := hC.2.2.2.1; have := hC.2.1; omega))) _ _ hP hD hS _ (lv_sub hl [0, 1, 2, 3] rfl)
          · have c_9h : (f / (2 : Int32)) = nI i := c_9
            refine lv_iload_n hx hb dX6_told_29 rfl (lv_at hl 3 rfl) ?_
            refine lv_iconst (v := 2) hx hb dX6_told_30 (by decide) ?_
            refine lv_irem hx hb dX6_told_31 (by decide) ?_
            refine lv_goto (tgt := 58) hx hb dX6_told_32 (by decide) ?_
            refine va_iast hx hb hK hP hD hS 2 1 rfl rfl (vp_in_nI (N := 30) (by have := (hk_nge N c_3 (hi := by have := hC.2.2.2.1; have := hC.2.1; omega) (hn := by have := hC.2.2.2.1; have := hC.2.1; omega)); have := hC.2.2.2.1; have := hC.2.1; omega) (by decide)) dX6_told_58 (fun H locs hP hD hS => ?_)
            rw [show (nI i).toNatClampNeg = i from nI_clamp (by have := hC.2.2.2.1; have := hC.2.1; omega)] at hP hD
            have hP : va_P D vwCl [(mo, .inr (6, [.ref ms, .ref mr, .ref mk, .int (nI km), .ref mt, .int (nI ln), .int (nI sp), .int (nI rs), .int (nI ws), .ref mv, .ref me])), (ms, .inl (g.2.1, 147, .inl fs)), (mv, .inl (g.2.1, 30, .inl (upd gv i (f - f / (2 : Int32) * (2 : Int32)))))] H := hP
            have hD : va_D A [(mo, .inr (6, [.ref ms, .ref mr, .ref mk, .int (nI km), .ref mt, .int (nI ln), .int (nI sp), .int (nI rs), .int (nI ws), .ref mv, .ref me])), (ms, .inl (g.2.1, 147, .inl fs)), (mv, .inl (g.2.1, 30, .inl (upd gv i (f - f / (2 : Int32) * (2 : Int32)))))] := hD
            refine lv_iinc (v := (nI (i + 1))) (lv' := [(3, .int (nI (i + 1))), (0, .ref mo), (1, .int (nI w)), (2, .int f)]) hx hb dX6_told_59 hl (k := 0) rfl (nI_1 i) (by decide) rfl (fun ls hl => ?_)
            refine lv_goto (tgt := 2) hx hb dX6_told_62 (by decide) ?_
            have hlt : i < N := (hk_nge N c_3 (hi := by have := hC.2.2.2.1; have := hC.2.1; omega) (hn := by have := hC.2.2.2.1; have := hC.2.1; omega))
            exact ih_2 (i + 1) (upd gv i (f - f / (2 : Int32) * (2 : Int32))) (by omega) (by omega) (hk_up (fun k v => v = bI (sv n ty pa pb (Ff f) w k)) hV (by obtain ⟨b9, h8, h9⟩ := Ff_e hf c_5 c_9; rw [sv_f h8]; exact h9)) _ _ hP hD hS _ (lv_sub hl [0, 1, 2, 3] rfl)
  exact loop2 _ 0 fv (Nat.lt_succ_self _) (Nat.zero_le _) (fun _ h => absurd h (Nat.not_lt_zero _)) _ _ hP hD hS _ (lv_sub hl [0, 1, 2, 3] rfl)
set_option maxHeartbeats 4000000 in
set_option maxRecDepth 100000 in
theorem c6_ones (l : Launch) (D : va_G) (g : hk_G) (ti : Nat) (xx : Nat) (hxx : xx < 64) : Met l yX6_ones wsX6_ones ({ frames := 0, cells := 0, slots := 0, locals := 0 }) (va_Pc [.int (nI xx)] (hk_Ro D g ti [])) (vp_Si (fun r => r = nI (ct (fun k => xx.testBit k) 6))) 0 0 (fun _ => False) := by
  refine Met.ofW (cc := cX6_ones) (maxL := 3) (ret := (some .int)) (by decide) rfl ?_
  intro p e s m args below meth c s₁ Bd hml hv
  obtain ⟨rfl, hP, hE⟩ := hv
  have hx := Bd.exec
  have hb := Bd.bytes
  have hr := Bd.returns
  have hts := atoms_spec (ws := wsX6_ones) Bd.pre
  have hown : s.vm.findClass RX6 = some m.cls := findClass_of_methodNamed Bd.named
  have hlocks := Bd.notSynchronized
  have hK := hE.1
  have hS : va_S (fun _ => False) s.heap s.heap [] := va_S.rf
  have hl := lv_entry ([.int (nI xx)]) (n := 3) (Nat.le_of_ble_eq_true rfl)
  rw [lg_entry_eq]
  generalize (lg_sl ([.int (nI xx)]) ++ List.replicate (3 - (lg_sl ([.int (nI xx)])).length) Slot.unset).toArray = ls at hl ⊢
  have hl : lv_has ls 3 [(0, .int (nI xx))] := hl
  refine lv_iconst (v := 0) hx hb dX6_ones_0 (by decide) ?_
  refine lv_istore_n (lv' := [(1, .int 0), (0, .int (nI xx))]) hx hb dX6_ones_1 rfl hl (by decide) rfl (fun ls hl => ?_)
  refine lv_iload_n hx hb dX6_ones_2 rfl (lv_at hl 1 rfl) ?_
  refine lv_istore_n (lv' := [(2, .int (nI xx)), (1, .int 0), (0, .int (nI xx))]) hx hb dX6_ones_3 rfl hl (by decide) rfl (fun ls hl => ?_)
  have loop4 : ∀ (fuel : Nat) (y : Nat) (c0 : Nat), y < fuel → (y < 64) → (c0 + ct (fun k => y.testBit k) 6 = ct (fun k => xx.testBit k) 6) → ∀ ls : Array Slot, lv_has ls 3 [(2, .int (nI y)), (1, .int (nI c0)), (0, .int (nI xx))] → W p l e (headSpec wsX6_ones ({ frames := 0, cells := 0, slots := 0, locals := 0 })).room s m ([.int (nI xx)] : List Value).toArray below meth c s.heap [] 0 0 (MQ below (vp_Si (fun r => r = nI (ct (fun k => xx.testBit k) 6))) ([.int (nI xx)] : List Value).toArray s 0 0 (fun _ => False)) (F0 m 4 ls []) := by
    intro fuel
    induction fuel with
    | zero => intro y c0 hm; exact absurd hm (Nat.not_lt_zero _)
    | succ fuel ih_4 =>
      intro y c0 hm_4 hy hc0 ls hl
      refine lv_iload_n hx hb dX6_ones_4 rfl (lv_at hl 0 rfl) ?_
      refine lv_if_eq (tgt := 20) hx hb dX6_ones_5 (by decide) (fun c_1 => ?_) (fun c_1 => ?_)
      · have c_1h : nI y = (0 : Int32) := c_1
        refine lv_iload_n hx hb dX6_ones_20 rfl (lv_at hl 1 rfl) ?_
        exact W.iret (v := nI c0) hx hb hr (fun tt ht hW => ⟨_, rfl, by rw [show y = 0 from nI_inj (b := 0) c_1 (by omega) (by decide), pc_0, Nat.add_zero] at hc0; rw [hc0], ht⟩) (fun _ h => by cases h) dX6_ones_21
      · have c_1h : ¬ nI y = (0 : Int32) := c_1
        refine lv_iinc (v := (nI (c0 + 1))) (lv' := [(1, .int (nI (c0 + 1))), (2, .int (nI y)), (0, .int (nI xx))]) hx hb dX6_ones_8 hl (k := 1) rfl (nI_1 c0) (by decide) rfl (fun ls hl => ?_)
        refine lv_iload_n hx hb dX6_ones_11 rfl (lv_at hl 1 rfl) ?_
        refine lv_iload_n hx hb dX6_ones_12 rfl (lv_at hl 1 rfl) ?_
        refine lv_iconst (v := 1) hx hb dX6_ones_13 (by decide) ?_
        refine lv_isub hx hb dX6_ones_14 ?_
        refine lv_iand hx hb dX6_ones_15 ?_
        refine hk_ti (nI (y &&& (y - 1))) (pc_d y hy (Nat.pos_of_ne_zero (fun q => c_1 (by rw [q]; rfl)))).1 ?_
        refine lv_istore_n (lv' := [(2, .int (nI (y &&& (y - 1)))), (1, .int (nI (c0 + 1))), (0, .int (nI xx))]) hx hb dX6_ones_16 rfl hl (by decide) rfl (fun ls hl => ?_)
        refine lv_goto (tgt := 4) hx hb dX6_ones_17 (by decide) ?_
        have hy0 : 0 < y := Nat.pos_of_ne_zero (fun q => c_1 (by rw [q]; rfl))
        exact ih_4 (y &&& (y - 1)) (c0 + 1) (by have := (pc_d y hy hy0).2.1; omega) (by have := (pc_d y hy hy0).2.1; omega) (by have := (pc_d y hy hy0).2.2; omega) _ (lv_sub hl [0, 1, 2] rfl)
  exact loop4 _ xx 0 (Nat.lt_succ_self _) hxx (Nat.zero_add _) _ (lv_sub hl [0, 1, 2] rfl)
theorem xor_ne {a b : Bool} (h : ¬ a = b) : (true && (a ^^ b)) = true := by cases a <;> cases b <;> first | rfl | exact absurd rfl h
set_option maxHeartbeats 4000000 in
set_option maxRecDepth 100000 in
theorem c6_isCoded (l : Launch) (D : va_G) (g : hk_G) (ti : Nat) (mo : Nat) (ms : Nat) (mr : Nat) (mk : Nat) (mt : Nat) (mv : Nat) (me : Nat) (fs : Nat → Int32) (km : Nat) (ln : Nat) (sp : Nat) (rs : Nat) (ws : Nat) (n : Nat) (N : Nat) (o : Nat) (cd : Nat) (wt : Nat) (ty : Nat → Nat) (pa : Nat → Nat) (pb : Nat → Nat) (vo : Nat → Nat) (nm : Int64) (xx : Nat) (hC : Cok n N o cd wt) (hM : MR n N o cd wt ty pa pb vo nm fs) (hxx : xx < 2 ^ o) : Met l yX6_isCoded wsX6_isCoded ({ frames := 1, cells := 0, slots := 0, locals := 22 }) (va_Pc [.ref mo, .int (nI xx)] (hk_Ro D g ti [(mo, .inr (6, [.ref ms, .ref mr, .ref mk, .int (nI km), .ref mt, .int (nI ln), .int (nI sp), .int (nI rs), .int (nI ws), .ref mv, .ref me])), (ms, .inl (g.2.1, 147, .inl fs))])) (vp_Si (fun r => r = bI (ic cd o wt (fun k => xx.testBit k)))) 0 0 (fun _ => False) := by
  refine Met.ofW (cc := cX6_isCoded) (maxL := 6) (ret := (some .boolean)) (by decide) rfl ?_
  intro p e s m args below meth c s₁ Bd hml hv
  obtain ⟨rfl, hP, hE⟩ := hv
  have hx := Bd.exec
  have hb := Bd.bytes
  have hr := Bd.returns
  have hts := atoms_spec (ws := wsX6_isCoded) Bd.pre
  have hown : s.vm.findClass RX6 = some m.cls := findClass_of_methodNamed Bd.named
  have hlocks := Bd.notSynchronized
  have hK := hE.1
  have hi6 : ∀ w ∈ wsX60, w ∈ wsX6_isCoded := fun w h => List.mem_cons_of_mem _ (List.mem_append_right _ h)
  have hS : va_S (fun _ => False) s.heap s.heap [] := va_S.rf
  have hl := lv_entry ([.ref mo, .int (nI xx)]) (n := 6) (Nat.le_of_ble_eq_true rfl)
  rw [lg_entry_eq]
  generalize (lg_sl ([.ref mo, .int (nI xx)]) ++ List.replicate (6 - (lg_sl ([.ref mo, .int (nI xx)])).length) Slot.unset).toArray = ls at hl ⊢
  have hl : lv_has ls 6 [(0, .ref mo), (1, .int (nI xx))] := hl
  refine lv_aload_n hx hb dX6_isCoded_0 rfl (lv_at hl 0 rfl) ?_
  refine va_get (D := D) (ci := 6) (v := .ref ms) (C := RX6) (T := TX6) (N := 11) hx hb hts hi6 hown hK hP 0 rfl rfl 0 (by decide) (hts (.fieldLink RX6 7 "SelfCheckingCircuitModel" "s" "[I") (by decide +kernel)) (fun _ h9 => h9) rfl dX6_isCoded_1 ?_
  refine lv_bipush (v := 74) hx hb dX6_isCoded_4 (by decide) ?_
  refine va_iald hx hb hK hP 1 1 rfl rfl (by unfold vp_in; decide) dX6_isCoded_6 ?_
  refine hk_ti (fs 74) (congrArg fs (by decide)) ?_
  refine hk_ti (nI o) (hM.1.2.2.1) ?_
  refine lv_istore_n (lv' := [(2, .int (nI o)), (0, .ref mo), (1, .int (nI xx))]) hx hb dX6_isCoded_7 rfl hl (by decide) rfl (fun ls hl => ?_)
  refine lv_aload_n hx hb dX6_isCoded_8 rfl (lv_at hl 1 rfl) ?_
  refine va_get (D := D) (ci := 6) (v := .ref ms) (C := RX6) (T := TX6) (N := 11) hx hb hts hi6 hown hK hP 0 rfl rfl 0 (by decide) (hts (.fieldLink RX6 7 "SelfCheckingCircuitModel" "s" "[I") (by decide +kernel)) (fun _ h9 => h9) rfl dX6_isCoded_9 ?_
  refine lv_bipush (v := 82) hx hb dX6_isCoded_12 (by decide) ?_
  refine va_iald hx hb hK hP 1 1 rfl rfl (by unfold vp_in; decide) dX6_isCoded_14 ?_
  refine hk_ti (fs 82) (congrArg fs (by decide)) ?_
  refine hk_ti (nI wt) (hM.1.2.2.2.2) ?_
  refine lv_istore_n (lv' := [(3, .int (nI wt)), (2, .int (nI o)), (0, .ref mo), (1, .int (nI xx))]) hx hb dX6_isCoded_15 rfl hl (by decide) rfl (fun ls hl => ?_)
  refine lv_iconst (v := 1) hx hb dX6_isCoded_16 (by decide) ?_
  refine lv_istore (lv' := [(4, .int 1), (3, .int (nI wt)), (2, .int (nI o)), (0, .ref mo), (1, .int (nI xx))]) hx hb dX6_isCoded_17 hl (by decide) rfl (fun ls hl => ?_)
  refine lv_aload_n hx hb dX6_isCoded_19 rfl (lv_at hl 3 rfl) ?_
  refine va_get (D := D) (ci := 6) (v := .ref ms) (C := RX6) (T := TX6) (N := 11) hx hb hts hi6 hown hK hP 0 rfl rfl 0 (by decide) (hts (.fieldLink RX6 7 "SelfCheckingCircuitModel" "s" "[I") (by decide +kernel)) (fun _ h9 => h9) rfl dX6_isCoded_20 ?_
  refine lv_bipush (v := 81) hx hb dX6_isCoded_23 (by decide) ?_
  refine va_iald hx hb hK hP 1 1 rfl rfl (by unfold vp_in; decide) dX6_isCoded_25 ?_
  refine hk_ti (fs 81) (congrArg fs (by decide)) ?_
  refine hk_ti (nI cd) (hM.1.2.2.2.1) ?_
  rcases hk_sw1_3 (nI cd) with c_2 | c_2 | c_2 | c_2
  · refine hk_ti 1 c_2 ?_
    refine lv_tableIn (tgt := 52) (off := 26) hx hb dX6_isCoded_26 (by decide) (by decide) rfl (by decide) ?_
    refine lv_iconst (v := 0) hx hb dX6_isCoded_52 (by decide) ?_
    refine lv_istore (lv' := [(5, .int 0), (4, .int 1), (3, .int (nI wt)), (2, .int (nI o)), (0, .ref mo), (1, .int (nI xx))]) hx hb dX6_isCoded_53 hl (by decide) rfl (fun ls hl => ?_)
    have loop55 : ∀ (fuel : Nat) (i : Nat) (b : Bool), (o / 2 - i) < fuel → (i ≤ o / 2) → (b = trB (fun k => xx.testBit k) i) → ∀ ls : Array Slot, lv_has ls 6 [(5, .int (nI i)), (4, .int (bI b)), (0, .ref mo), (1, .int (nI xx)), (2, .int (nI o)), (3, .int (nI wt))] → W p l e (headSpec wsX6_isCoded ({ frames := 1, cells := 0, slots := 0, locals := 22 })).room s m ([.ref mo, .int (nI xx)] : List Value).toArray below meth c s.heap [] 0 0 (MQ below (vp_Si (fun r => r = bI (ic cd o wt (fun k => xx.testBit k)))) ([.ref mo, .int (nI xx)] : List Value).toArray s 0 0 (fun _ => False)) (F0 m 55 ls []) := by
      intro fuel
      induction fuel with
      | zero => intro i b hm; exact absurd hm (Nat.not_lt_zero _)
      | succ fuel ih_55 =>
        intro i b hm_55 hi hb2 ls hl
        refine lv_iload hx hb dX6_isCoded_55 (lv_at hl 0 rfl) ?_
        refine lv_iload_n hx hb dX6_isCoded_57 rfl (lv_at hl 4 rfl) ?_
        refine lv_iconst (v := 2) hx hb dX6_isCoded_58 (by decide) ?_
        refine lv_idiv hx hb dX6_isCoded_59 (by decide) ?_
        refine hk_ti (nI (o / 2)) (pk_div (by have := hC.2.2.2.2.1; omega) (d := 2) (by decide) (by decide)) ?_
        refine lv_icmp_ge (tgt := 102) hx hb dX6_isCoded_60 (by decide) (fun c_3 => ?_) (fun c_3 => ?_)
        · have c_3h : nI (o / 2) ≤ nI i := c_3
          refine lv_iload hx hb dX6_isCoded_102 (lv_at hl 1 rfl) ?_
          refine lv_if_eq (tgt := 117) hx hb dX6_isCoded_104 (by decide) (fun c_4 => ?_) (fun c_4 => ?_)
          · have c_4h : bI b = (0 : Int32) := c_4
            refine lv_iconst (v := 0) hx hb dX6_isCoded_117 (by decide) ?_
            exact W.zret (v := 0) hx hb hr (hk_z0) (fun tt ht hW => ⟨_, rfl, by rw [nI_inj (b := 1) c_2 (by have := hC.2.2.2.2.2.1; omega) (by decide)]; show _ = bI (decide (o % 2 = 0) && trB (fun k => xx.testBit k) (o / 2)); rw [← (show i = o / 2 by have := hk_ge (o / 2) c_3 (hi := by have := hC.2.2.2.2.1; omega) (hn := by have := hC.2.2.2.2.1; omega); omega), ← hb2, bI_0.mp c_4]; simp [bI], ht⟩) (fun _ h => by cases h) dX6_isCoded_118
          · have c_4h : ¬ bI b = (0 : Int32) := c_4
            refine lv_iload_n hx hb dX6_isCoded_107 rfl (lv_at hl 4 rfl) ?_
            refine lv_iconst (v := 2) hx hb dX6_isCoded_108 (by decide) ?_
            refine lv_irem hx hb dX6_isCoded_109 (by decide) ?_
            refine hk_ti (nI (o % 2)) (pk_rem (by have := hC.2.2.2.2.1; omega) (d := 2) (by decide) (by decide)) ?_
            refine lv_if_ne (tgt := 117) hx hb dX6_isCoded_110 (by decide) (fun c_5 => ?_) (fun c_5 => ?_)
            · have c_5h : ¬ nI (o % 2) = (0 : Int32) := c_5
              refine lv_iconst (v := 0) hx hb dX6_isCoded_117 (by decide) ?_
              exact W.zret (v := 0) hx hb hr (hk_z0) (fun tt ht hW => ⟨_, rfl, by rw [nI_inj (b := 1) c_2 (by have := hC.2.2.2.2.2.1; omega) (by decide)]; show _ = bI (decide (o % 2 = 0) && trB (fun k => xx.testBit k) (o / 2)); rw [← (show i = o / 2 by have := hk_ge (o / 2) c_3 (hi := by have := hC.2.2.2.2.1; omega) (hn := by have := hC.2.2.2.2.1; omega); omega), ← hb2, decide_eq_false (fun q => c_5 (by rw [q]; rfl))]; rfl, ht⟩) (fun _ h => by cases h) dX6_isCoded_118
            · have c_5h : nI (o % 2) = (0 : Int32) := c_5
              refine lv_iconst (v := 1) hx hb dX6_isCoded_113 (by decide) ?_
              refine lv_goto (tgt := 118) hx hb dX6_isCoded_114 (by decide) ?_
              exact W.zret (v := 1) hx hb hr (hk_z1) (fun tt ht hW => ⟨_, rfl, by rw [nI_inj (b := 1) c_2 (by have := hC.2.2.2.2.2.1; omega) (by decide)]; show _ = bI (decide (o % 2 = 0) && trB (fun k => xx.testBit k) (o / 2)); rw [← (show i = o / 2 by have := hk_ge (o / 2) c_3 (hi := by have := hC.2.2.2.2.1; omega) (hn := by have := hC.2.2.2.2.1; omega); omega), ← hb2, bI_n0 c_4, decide_eq_true (nI_inj (b := 0) c_5 (by omega) (by decide))]; rfl, ht⟩) (fun _ h => by cases h) dX6_isCoded_118
        · have c_3h : ¬ nI (o / 2) ≤ nI i := c_3
          refine lv_iload hx hb dX6_isCoded_63 (lv_at hl 1 rfl) ?_
          refine lv_if_eq (tgt := 93) hx hb dX6_isCoded_65 (by decide) (fun c_6 => ?_) (fun c_6 => ?_)
          · have c_6h : bI b = (0 : Int32) := c_6
            refine lv_iconst (v := 0) hx hb dX6_isCoded_93 (by decide) ?_
            refine lv_istore (lv' := [(4, .int 0), (5, .int (nI i)), (0, .ref mo), (1, .int (nI xx)), (2, .int (nI o)), (3, .int (nI wt))]) hx hb dX6_isCoded_94 hl (by decide) rfl (fun ls hl => ?_)
            refine lv_iinc (v := (nI (i + 1))) (lv' := [(5, .int (nI (i + 1))), (4, .int 0), (0, .ref mo), (1, .int (nI xx)), (2, .int (nI o)), (3, .int (nI wt))]) hx hb dX6_isCoded_96 hl (k := 1) rfl (nI_1 i) (by decide) rfl (fun ls hl => ?_)
            refine lv_goto (tgt := 55) hx hb dX6_isCoded_99 (by decide) ?_
            have hlt : i < o / 2 := hk_nge (o / 2) c_3 (hi := by have := hC.2.2.2.2.1; omega) (hn := by have := hC.2.2.2.2.1; omega)
            exact ih_55 (i + 1) false (by omega) (by omega) (by show _ = (trB (fun k => xx.testBit k) i && _); rw [← hb2, bI_0.mp c_6]; rfl) _ (lv_sub hl [0, 1, 2, 3, 4, 5] rfl)
          · have c_6h : ¬ bI b = (0 : Int32) := c_6
            refine lv_iload_n hx hb dX6_isCoded_68 rfl (lv_at hl 3 rfl) ?_
            refine lv_iconst (v := 2) hx hb dX6_isCoded_69 (by decide) ?_
            refine lv_iload hx hb dX6_isCoded_70 (lv_at hl 0 rfl) ?_
            refine lv_imul hx hb dX6_isCoded_72 ?_
            refine hk_ti (nI (2 * i)) (pk_mul 2 i) ?_
            refine lv_ishr hx hb dX6_isCoded_73 ?_
            refine lv_iconst (v := 1) hx hb dX6_isCoded_74 (by decide) ?_
            refine lv_iand hx hb dX6_isCoded_75 ?_
            refine hk_ti (bI (xx.testBit (2 * i))) ((tr_m xx (pw_64 hC.2.2.2.2.1 hxx) i (by have := (hk_nge (o / 2) c_3 (hi := by have := hC.2.2.2.2.1; omega) (hn := by have := hC.2.2.2.2.1; omega)); have := hC.2.2.2.2.1; omega)).1) ?_
            refine lv_iload_n hx hb dX6_isCoded_76 rfl (lv_at hl 3 rfl) ?_
            refine lv_iconst (v := 2) hx hb dX6_isCoded_77 (by decide) ?_
            refine lv_iload hx hb dX6_isCoded_78 (lv_at hl 0 rfl) ?_
            refine lv_imul hx hb dX6_isCoded_80 ?_
            refine lv_iconst (v := 1) hx hb dX6_isCoded_81 (by decide) ?_
            refine lv_iadd hx hb dX6_isCoded_82 ?_
            refine hk_ti (nI (2 * i + 1)) (by rw [show (2 : Int32) * nI i = nI (2 * i) from pk_mul 2 i]; exact nI_1 _) ?_
            refine lv_ishr hx hb dX6_isCoded_83 ?_
            refine lv_iconst (v := 1) hx hb dX6_isCoded_84 (by decide) ?_
            refine lv_iand hx hb dX6_isCoded_85 ?_
            refine hk_ti (bI (xx.testBit (2 * i + 1))) ((tr_m xx (pw_64 hC.2.2.2.2.1 hxx) i (by have := (hk_nge (o / 2) c_3 (hi := by have := hC.2.2.2.2.1; omega) (hn := by have := hC.2.2.2.2.1; omega)); have := hC.2.2.2.2.1; omega)).2) ?_
            refine lv_icmp_eq (tgt := 93) hx hb dX6_isCoded_86 (by decide) (fun c_7 => ?_) (fun c_7 => ?_)
            · have c_7h : bI (xx.testBit (2 * i)) = bI (xx.testBit (2 * i + 1)) := c_7
              refine lv_iconst (v := 0) hx hb dX6_isCoded_93 (by decide) ?_
              refine lv_istore (lv' := [(4, .int 0), (5, .int (nI i)), (0, .ref mo), (1, .int (nI xx)), (2, .int (nI o)), (3, .int (nI wt))]) hx hb dX6_isCoded_94 hl (by decide) rfl (fun ls hl => ?_)
              refine lv_iinc (v := (nI (i + 1))) (lv' := [(5, .int (nI (i + 1))), (4, .int 0), (0, .ref mo), (1, .int (nI xx)), (2, .int (nI o)), (3, .int (nI wt))]) hx hb dX6_isCoded_96 hl (k := 1) rfl (nI_1 i) (by decide) rfl (fun ls hl => ?_)
              refine lv_goto (tgt := 55) hx hb dX6_isCoded_99 (by decide) ?_
              have hlt : i < o / 2 := hk_nge (o / 2) c_3 (hi := by have := hC.2.2.2.2.1; omega) (hn := by have := hC.2.2.2.2.1; omega)
              exact ih_55 (i + 1) false (by omega) (by omega) (by show _ = (trB (fun k => xx.testBit k) i && (xx.testBit (2 * i) ^^ xx.testBit (2 * i + 1))); rw [bI_eq.mp c_7]; simp) _ (lv_sub hl [0, 1, 2, 3, 4, 5] rfl)
            · have c_7h : ¬ bI (xx.testBit (2 * i)) = bI (xx.testBit (2 * i + 1)) := c_7
              refine lv_iconst (v := 1) hx hb dX6_isCoded_89 (by decide) ?_
              refine lv_goto (tgt := 94) hx hb dX6_isCoded_90 (by decide) ?_
              refine lv_istore (lv' := [(4, .int 1), (5, .int (nI i)), (0, .ref mo), (1, .int (nI xx)), (2, .int (nI o)), (3, .int (nI wt))]) hx hb dX6_isCoded_94 hl (by decide) rfl (fun ls hl => ?_)
              refine lv_iinc (v := (nI (i + 1))) (lv' := [(5, .int (nI (i + 1))), (4, .int 1), (0, .ref mo), (1, .int (nI xx)), (2, .int (nI o)), (3, .int (nI wt))]) hx hb dX6_isCoded_96 hl (k := 1) rfl (nI_1 i) (by decide) rfl (fun ls hl => ?_)
              refine lv_goto (tgt := 55) hx hb dX6_isCoded_99 (by decide) ?_
              have hlt : i < o / 2 := hk_nge (o / 2) c_3 (hi := by have := hC.2.2.2.2.1; omega) (hn := by have := hC.2.2.2.2.1; omega)
              exact ih_55 (i + 1) true (by omega) (by omega) (by show _ = (trB (fun k => xx.testBit k) i && (xx.testBit (2 * i) ^^ xx.testBit (2 * i + 1))); rw [← hb2, bI_n0 c_6]; exact (xor_ne (fun q => c_7 (by rw [q]))).symm) _ (lv_sub hl [0, 1, 2, 3, 4, 5] rfl)
    exact loop55 _ 0 true (Nat.lt_succ_self _) (Nat.zero_le _) rfl _ (lv_sub hl [0, 1, 4, 5, 3, 2] rfl)
  · refine hk_ti 2 c_2 ?_
    refine lv_tableIn (tgt := 119) (off := 93) hx hb dX6_isCoded_26 (by decide) (by decide) rfl (by decide) ?_
    refine lv_iload_n hx hb dX6_isCoded_119 rfl (lv_at hl 4 rfl) ?_
    refine hk_csi (va_runS (As := [.int (nI xx)]) (rest := []) ⟨hx, hb, hml, hown, hts⟩ (c6_ones l D g ti xx (pw_64 hC.2.2.2.2.1 hxx)) (va_cwS 1 hts gX6_isCoded_X6_ones rfl rfl rfl (by decide +kernel) ⟨Nat.le_of_ble_eq_true rfl, Nat.le_of_ble_eq_true rfl⟩) (hk_roS hE hP hS [] rfl) rfl rfl hl.1 rfl (lv_room (Nat.le_of_ble_eq_true rfl)) dX6_isCoded_120 ⟨Nat.zero_le _, Nat.zero_le _⟩) (fun r_8 hr_9 => ?_)
    subst hr_9
    refine lv_iload_n hx hb dX6_isCoded_123 rfl (lv_at hl 1 rfl) ?_
    refine lv_icmp_ne (tgt := 131) hx hb dX6_isCoded_124 (by decide) (fun c_10 => ?_) (fun c_10 => ?_)
    · have c_10h : ¬ (nI (ct (fun k => xx.testBit k) 6)) = nI wt := c_10
      refine lv_iconst (v := 0) hx hb dX6_isCoded_131 (by decide) ?_
      exact W.zret (v := 0) hx hb hr (hk_z0) (fun tt ht hW => ⟨_, rfl, by rw [nI_inj (b := 2) c_2 (by have := hC.2.2.2.2.2.1; omega) (by decide)]; show _ = bI (decide (ct (fun k => xx.testBit k) o = wt)); rw [← cw_m o (by have := hC.2.2.2.2.1; omega) xx hxx, decide_eq_false (fun q => c_10 (by rw [q]))]; rfl, ht⟩) (fun _ h => by cases h) dX6_isCoded_132
    · have c_10h : (nI (ct (fun k => xx.testBit k) 6)) = nI wt := c_10
      refine lv_iconst (v := 1) hx hb dX6_isCoded_127 (by decide) ?_
      refine lv_goto (tgt := 132) hx hb dX6_isCoded_128 (by decide) ?_
      exact W.zret (v := 1) hx hb hr (hk_z1) (fun tt ht hW => ⟨_, rfl, by rw [nI_inj (b := 2) c_2 (by have := hC.2.2.2.2.2.1; omega) (by decide)]; show _ = bI (decide (ct (fun k => xx.testBit k) o = wt)); rw [← cw_m o (by have := hC.2.2.2.2.1; omega) xx hxx, decide_eq_true (nI_inj c_10 (by have := ct_le (fun k => xx.testBit k) 6; omega) (by have := hC.2.2.2.2.2.2; omega))]; rfl, ht⟩) (fun _ h => by cases h) dX6_isCoded_132
  · refine hk_ti 3 c_2 ?_
    refine lv_tableIn (tgt := 133) (off := 107) hx hb dX6_isCoded_26 (by decide) (by decide) rfl (by decide) ?_
    refine lv_iload_n hx hb dX6_isCoded_133 rfl (lv_at hl 1 rfl) ?_
    refine lv_iload_n hx hb dX6_isCoded_134 rfl (lv_at hl 2 rfl) ?_
    refine lv_icmp_gt (tgt := 160) hx hb dX6_isCoded_135 (by decide) (fun c_11 => ?_) (fun c_11 => ?_)
    · have c_11h : nI o < nI wt := c_11
      refine lv_iconst (v := 0) hx hb dX6_isCoded_160 (by decide) ?_
      exact W.zret (v := 0) hx hb hr (hk_z0) (fun tt ht hW => ⟨_, rfl, by rw [nI_inj (b := 3) c_2 (by have := hC.2.2.2.2.2.1; omega) (by decide)]; show _ = bI (decide (wt ≤ o) && beB wt o (fun k => xx.testBit k) 6); rw [decide_eq_false (by have := (nI_ltI (by have := hC.2.2.2.2.1; omega) (by have := hC.2.2.2.2.2.2; omega)).mp c_11; omega)]; rfl, ht⟩) (fun _ h => by cases h) dX6_isCoded_161
    · have c_11h : ¬ nI o < nI wt := c_11
      refine lv_iload_n hx hb dX6_isCoded_138 rfl (lv_at hl 4 rfl) ?_
      refine lv_iload_n hx hb dX6_isCoded_139 rfl (lv_at hl 1 rfl) ?_
      refine lv_ishr hx hb dX6_isCoded_140 ?_
      refine lv_iload_n hx hb dX6_isCoded_141 rfl (lv_at hl 1 rfl) ?_
      refine lv_iload_n hx hb dX6_isCoded_142 rfl (lv_at hl 4 rfl) ?_
      refine lv_iconst (v := 1) hx hb dX6_isCoded_143 (by decide) ?_
      refine lv_iload_n hx hb dX6_isCoded_144 rfl (lv_at hl 1 rfl) ?_
      refine lv_ishl hx hb dX6_isCoded_145 ?_
      refine lv_iconst (v := 1) hx hb dX6_isCoded_146 (by decide) ?_
      refine lv_isub hx hb dX6_isCoded_147 ?_
      refine lv_iand hx hb dX6_isCoded_148 ?_
      refine hk_ti (nI (xx &&& (2 ^ wt - 1))) ((be_a wt (by have := hC.2.2.2.2.2.2; omega) xx (pw_64 hC.2.2.2.2.1 hxx)).1) ?_
      refine hk_csi (va_runS (As := [.int (nI (xx &&& (2 ^ wt - 1)))]) (rest := [.int (nI wt), .int (nI xx >>> (nI wt &&& 31))]) ⟨hx, hb, hml, hown, hts⟩ (c6_ones l D g ti (xx &&& (2 ^ wt - 1)) ((be_a wt (by have := hC.2.2.2.2.2.2; omega) xx (pw_64 hC.2.2.2.2.1 hxx)).2)) (va_cwS 1 hts gX6_isCoded_X6_ones rfl rfl rfl (by decide +kernel) ⟨Nat.le_of_ble_eq_true rfl, Nat.le_of_ble_eq_true rfl⟩) (hk_roS hE hP hS [] rfl) rfl rfl hl.1 rfl (lv_room (Nat.le_of_ble_eq_true rfl)) dX6_isCoded_149 ⟨Nat.zero_le _, Nat.zero_le _⟩) (fun r_12 hr_13 => ?_)
      subst hr_13
      refine lv_isub hx hb dX6_isCoded_152 ?_
      refine lv_icmp_ne (tgt := 160) hx hb dX6_isCoded_153 (by decide) (fun c_14 => ?_) (fun c_14 => ?_)
      · have c_14h : ¬ (nI xx >>> (nI wt &&& 31)) = (nI wt - (nI (ct (fun k => (xx &&& (2 ^ wt - 1)).testBit k) 6))) := c_14
        refine lv_iconst (v := 0) hx hb dX6_isCoded_160 (by decide) ?_
        exact W.zret (v := 0) hx hb hr (hk_z0) (fun tt ht hW => ⟨_, rfl, by rw [nI_inj (b := 3) c_2 (by have := hC.2.2.2.2.2.1; omega) (by decide)]; show _ = bI (decide (wt ≤ o) && beB wt o (fun k => xx.testBit k) 6); rw [decide_eq_true (Nat.not_lt.mp fun q => c_11 ((nI_ltI (a := o) (b := wt) (by have := hC.2.2.2.2.1; omega) (by have := hC.2.2.2.2.2.2; omega)).mpr q)), ← be_m o (by have := hC.2.2.2.2.1; omega) wt (Nat.not_lt.mp fun q => c_11 ((nI_ltI (a := o) (b := wt) (by have := hC.2.2.2.2.1; omega) (by have := hC.2.2.2.2.2.2; omega)).mpr q)) xx hxx, decide_eq_false c_14]; rfl, ht⟩) (fun _ h => by cases h) dX6_isCoded_161
      · have c_14h : (nI xx >>> (nI wt &&& 31)) = (nI wt - (nI (ct (fun k => (xx &&& (2 ^ wt - 1)).testBit k) 6))) := c_14
        refine lv_iconst (v := 1) hx hb dX6_isCoded_156 (by decide) ?_
        refine lv_goto (tgt := 161) hx hb dX6_isCoded_157 (by decide) ?_
        exact W.zret (v := 1) hx hb hr (hk_z1) (fun tt ht hW => ⟨_, rfl, by rw [nI_inj (b := 3) c_2 (by have := hC.2.2.2.2.2.1; omega) (by decide)]; show _ = bI (decide (wt ≤ o) && beB wt o (fun k => xx.testBit k) 6); rw [decide_eq_true (Nat.not_lt.mp fun q => c_11 ((nI_ltI (a := o) (b := wt) (by have := hC.2.2.2.2.1; omega) (by have := hC.2.2.2.2.2.2; omega)).mpr q)), ← be_m o (by have := hC.2.2.2.2.1; omega) wt (Nat.not_lt.mp fun q => c_11 ((nI_ltI (a := o) (b := wt) (by have := hC.2.2.2.2.1; omega) (by have := hC.2.2.2.2.2.2; omega)).mpr q)) xx hxx, decide_eq_true c_14]; rfl, ht⟩) (fun _ h => by cases h) dX6_isCoded_161
  · refine lv_tableOut (tgt := 162) hx hb dX6_isCoded_26 c_2 (by decide) ?_
    refine lv_iconst (v := 1) hx hb dX6_isCoded_162 (by decide) ?_
    exact W.zret (v := 1) hx hb hr (hk_z1) (fun tt ht hW => ⟨_, rfl, by rw [hk_ic0 c_2 hC.2.2.2.2.2.1]; rfl, ht⟩) (fun _ h => by cases h) dX6_isCoded_163
