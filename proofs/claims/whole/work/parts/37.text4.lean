theorem ca_L {tx : Nat → Nat} {L p k : Nat} (h : ca tx L p = k) (hk : 0 < k) : p < L := by
  apply Classical.byContradiction
  intro q
  unfold ca at h; rw [if_neg q] at h; omega
theorem s1_q {tx : Nat → Nat} {L p : Nat} {fc : Nat → Int32} (hX : TX tx L fc) (h : s1 tx L p = true) : p < cP tx L p + 1 ∧ cP tx L p + 1 ≤ L := by
  unfold s1 at h
  rw [Bool.and_eq_true, decide_eq_true_eq] at h
  have := ca_L h.2 (by decide)
  have := (cP_le hX p).1
  omega
theorem gq_q {tx : Nat → Nat} {L p : Nat} {fc : Nat → Int32} (hX : TX tx L fc) (h : (ga tx L p || gb tx L p) = true) : p < gq tx L p ∧ gq tx L p ≤ L := by
  have h1 := (cP_le hX p).1
  have h2 := (cP_le hX (cP tx L p + 1)).1
  have h3 := (cP_le hX (cP tx L (cP tx L p + 1) + 1)).1
  unfold gq
  cases q : gb tx L p
  · rw [q] at h
    rw [if_neg (by decide)]
    unfold ga at h
    simp only [Bool.or_false, Bool.and_eq_true, decide_eq_true_eq] at h
    have := ca_L h.2.2 (by decide)
    omega
  · rw [if_pos rfl]
    unfold gb at q
    simp only [Bool.and_eq_true, decide_eq_true_eq] at q
    have := ca_L q.2.2 (by decide)
    omega
theorem pS_q {tx : Nat → Nat} {L p : Nat} {V : VT} {fc : Nat → Int32} (hX : TX tx L fc) (h : (pS tx L p V).1 = 0) : p < (pS tx L p V).2.1 ∧ (pS tx L p V).2.1 ≤ L := by
  unfold pS at h ⊢
  by_cases q1 : mb (ca tx L p) p = true
  · rw [if_pos q1] at h ⊢
    by_cases q2 : ca tx L p = 103
    · rw [if_pos q2] at h ⊢
      by_cases q3 : (ga tx L (p + 1) || gb tx L (p + 1)) = true
      · rw [if_pos q3] at h ⊢
        have := gq_q hX q3
        exact ⟨by show p < gq tx L (p + 1); omega, this.2⟩
      · rw [if_neg q3] at h; cases h
    · rw [if_neg q2] at h ⊢
      by_cases q3 : s1 tx L (p + 1) = true
      · rw [if_pos q3] at h ⊢
        have := s1_q hX q3
        by_cases q4 : ca tx L p = 105
        · rw [if_pos q4] at h ⊢; exact ⟨by show p < cP tx L (p + 1) + 1; omega, this.2⟩
        · rw [if_neg q4] at h ⊢
          by_cases q5 : ca tx L p = 111
          · rw [if_pos q5] at h ⊢; exact ⟨by show p < cP tx L (p + 1) + 1; omega, this.2⟩
          · rw [if_neg q5] at h ⊢; exact ⟨by show p < cP tx L (p + 1) + 1; omega, this.2⟩
      · rw [if_neg q3] at h; cases h
  · rw [if_neg q1] at h; cases h
theorem tI_le {v : Nat} {V : VT} : (tI v V).1 ≤ 4 := by unfold tI; split <;> simp only <;> decide
theorem tO_le {v : Nat} {V : VT} : (tO v V).1 ≤ 4 := by
  obtain ⟨n, N, o, ty, pa, pb, vo, nm⟩ := V
  unfold tO; dsimp only; split
  · split <;> (simp only; decide)
  · simp only; decide
theorem tW_le {v : Nat} {V : VT} : (tW v V).1 ≤ 4 := by
  obtain ⟨n, N, o, ty, pa, pb, vo, nm⟩ := V
  unfold tW; dsimp only; split <;> (simp only; decide)
theorem tG_le {k t a b : Nat} {V : VT} : (tG k t a b V).1 ≤ 4 := by
  obtain ⟨n, N, o, ty, pa, pb, vo, nm⟩ := V
  unfold tG; dsimp only; split
  · split <;> (simp only; decide)
  · simp only; decide
theorem pS_le {tx : Nat → Nat} {L p : Nat} {V : VT} : (pS tx L p V).1 ≤ 4 := by
  unfold pS
  split
  · split
    · split
      · exact tG_le
      · show 2 ≤ 4; decide
    · split
      · split
        · exact tI_le
        · split
          · exact tO_le
          · exact tW_le
      · show 2 ≤ 4; decide
  · show 1 ≤ 4; decide
def Vz : VT := (0, 0, 0, zf, zf, zf, zf, 0)
/-- the whole text: the first malformed statement's place and fault, or -104 twice; the circuit -/
def pA (tx : Nat → Nat) (L : Nat) : Nat → Nat → VT → Int32 × Int32 × VT
  | 0, _, V => (-104, -104, V)
  | f + 1, p, V => if p < L then (if (pS tx L p V).1 = 0 then pA tx L f (pS tx L p V).2.1 (pS tx L p V).2.2 else (nI p, nI (pS tx L p V).1, Vz)) else (-104, -104, V)
theorem pA_go {tx : Nat → Nat} {L f p q : Nat} {V W : VT} (hp : p < L) (h0 : (pS tx L p V).1 = 0) (hq : q = (pS tx L p V).2.1) (hW : (pS tx L p V).2.2 = W) : pA tx L (f + 1) p V = pA tx L f q W := by
  rw [pA, if_pos hp, if_pos h0, hq, hW]
theorem pA_stop {tx : Nat → Nat} {L f p : Nat} {V : VT} (hp : p < L) (h0 : ¬ (pS tx L p V).1 = 0) : pA tx L (f + 1) p V = (nI p, nI (pS tx L p V).1, Vz) := by
  rw [pA, if_pos hp, if_neg h0]
theorem pA_end {tx : Nat → Nat} {L p : Nat} {V : VT} (hp : ¬ p < L) : ∀ f, pA tx L f p V = (-104, -104, V)
  | 0 => rfl
  | f + 1 => by rw [pA, if_neg hp]
theorem nI_n104 {k : Nat} (h : k < 2 ^ 31) : ¬ nI k = (-104 : Int32) := fun q => absurd (show nI k < 0 by rw [q]; decide) (nI_pos h)
theorem pA_r {tx : Nat → Nat} {L : Nat} (hL : L ≤ 200) : ∀ (f p : Nat) (V : VT), ((pA tx L f p V).1 = -104 ↔ (pA tx L f p V).2.1 = -104)
  | 0, _, _ => ⟨fun _ => rfl, fun _ => rfl⟩
  | f + 1, p, V => by
    rw [pA]
    by_cases hp : p < L
    · rw [if_pos hp]
      by_cases h0 : (pS tx L p V).1 = 0
      · rw [if_pos h0]; exact pA_r hL f _ _
      · rw [if_neg h0]
        exact ⟨fun q => absurd q (nI_n104 (by omega)), fun q => absurd q (nI_n104 (by have := pS_le (tx := tx) (L := L) (p := p) (V := V); omega))⟩
    · rw [if_neg hp]
def wm (n : Nat) : Int64 := (((-1) : Int64).toUInt64 >>> ((64 - ((1 : Int32) <<< (nI n &&& 31))).toInt64.toUInt64 &&& Int64.toUInt64 63)).toInt64
theorem wm_d : ∀ n, n < 7 → ∀ w, w < 64 → lb (wm n) w = decide (w < 2 ^ n) := by decide +kernel
theorem lb_wm {n w : Nat} (hn : n ≤ 6) : lb (wm n) w = decide (w < 2 ^ n) := by
  by_cases hw : w < 64
  · exact wm_d n (by omega) w hw
  · rw [lb_big _ (by omega), decide_eq_false (fun q => hw (pw_64 hn q))]
def VN : VT → VT
  | (n, N, o, ty, pa, pb, vo, nm) => (n, N, o, ty, pa, pb, vo, if nm = 0 then wm n else nm)
def RDp (R : Int32 × Int32 × VT) (es rs : Int32) (n N o : Nat) (nm : Int64) (ft fa fb fo : Nat → Int32) : Prop := es = R.1 ∧ rs = R.2.1 ∧ (∃ V, CRV V n N o nm ft fa fb fo) ∧ (R.1 = -104 → CRV (VN R.2.2) n N o nm ft fa fb fo)
theorem CR_N {n N o : Nat} {ty pa pb vo : Nat → Nat} {nm : Int64} {ft fa fb fo : Nat → Int32} {m : Int64} (h : CR n N o ty pa pb vo nm ft fa fb fo) (hm : m = wm n) : CR n N o ty pa pb vo m ft fa fb fo :=
  ⟨h.1, h.2.1, h.2.2.1, h.2.2.2.1, fun w hw => by rw [hm, lb_wm h.1.1, decide_eq_false (by omega)]⟩
theorem rd_a {n N o : Nat} {ty pa pb vo : Nat → Nat} {nm : Int64} {ft fa fb fo : Nat → Int32} {R : Int32 × Int32 × VT} (h : CR n N o ty pa pb vo nm ft fa fb fo) (hR : (-104, -104, (n, N, o, ty, pa, pb, vo, nm)) = R) (h0 : nm = 0) : RDp R (-104) (-104) n N o (wm n) ft fa fb fo := by
  subst hR
  refine ⟨rfl, rfl, ⟨_, ty, pa, pb, vo, rfl, CR_N h rfl⟩, fun _ => ⟨ty, pa, pb, vo, ?_, CR_N h rfl⟩⟩
  show (n, N, o, ty, pa, pb, vo, if nm = 0 then wm n else nm) = _
  rw [if_pos h0]
theorem rd_b {n N o : Nat} {ty pa pb vo : Nat → Nat} {nm : Int64} {ft fa fb fo : Nat → Int32} {R : Int32 × Int32 × VT} (h : CR n N o ty pa pb vo nm ft fa fb fo) (hR : (-104, -104, (n, N, o, ty, pa, pb, vo, nm)) = R) (h0 : ¬ nm = 0) : RDp R (-104) (-104) n N o nm ft fa fb fo := by
  subst hR
  refine ⟨rfl, rfl, ⟨_, ty, pa, pb, vo, rfl, h⟩, fun _ => ⟨ty, pa, pb, vo, ?_, h⟩⟩
  show (n, N, o, ty, pa, pb, vo, if nm = 0 then wm n else nm) = _
  rw [if_neg h0]
theorem rd_f {n N o : Nat} {ty pa pb vo : Nat → Nat} {nm : Int64} {ft fa fb fo : Nat → Int32} {R : Int32 × Int32 × VT} {p k : Nat} (hp : p < 2 ^ 31) (h : CR n N o ty pa pb vo nm ft fa fb fo) (hR : (nI p, nI k, Vz) = R) : RDp R (nI p) (nI k) n N o nm ft fa fb fo := by
  subst hR
  exact ⟨rfl, rfl, ⟨_, ty, pa, pb, vo, rfl, h⟩, fun q => absurd q (nI_n104 hp)⟩
set_option maxHeartbeats 4000000 in
set_option maxRecDepth 100000 in
theorem c4_read (l : Launch) (D : va_G) (g : hk_G) (ti : Nat) (sz : Nat) (rd : Nat) (tb : Nat) (tc : Nat) (fc : Nat → Int32) (tx : Nat → Nat) (L : Nat) (nb : Nat) (fn : Nat → Int32) (kc : Int32) (es : Int32) (rs : Int32) (a : Nat) (t : Nat) (f1 : Nat) (f2 : Nat) (on : Nat) (ft : Nat → Int32) (fa : Nat → Int32) (fb : Nat → Int32) (fo : Nat → Int32) (n : Nat) (N : Nat) (o : Nat) (nm : Int64) (cd : Nat) (wt : Nat) (ty : Nat → Nat) (pa : Nat → Nat) (pb : Nat → Nat) (vo : Nat → Nat) (po : Int32) (hX : TX tx L fc) (hcn : ∀ j, narrow .char (.int (fc j)) = .int (fc j)) (hV : CR n N o ty pa pb vo nm ft fa fb fo) : Met l yX4_read wsX4_read ({ frames := 4, cells := 0, slots := 0, locals := 90 }) (va_Pc [.ref rd] (hk_In D g ti [(rd, .inr (4, [.ref tb, .ref a, .ref nb, .int kc, .int po, .int es, .int rs])), (tb, .inr (2, [.ref tc, .int (nI L)])), (tc, .inl (g.1, 200, .inl fc)), (nb, .inl (g.2.1, 3, .inl fn)), (a, .inr (1, [.ref t, .ref f1, .ref f2, .ref on, .int (nI n), .int (nI N), .int (nI o), .long nm, .int (nI cd), .int (nI wt)])), (t, .inl (g.2.1, 30, .inl ft)), (f1, .inl (g.2.1, 30, .inl fa)), (f2, .inl (g.2.1, 30, .inl fb)), (on, .inl (g.2.1, 6, .inl fo))] sz)) (va_Qv (S := Int32 × Int32 × (Nat → Int32) × Nat × Nat × Nat × Int64 × (Nat → Int32) × (Nat → Int32) × (Nat → Int32) × (Nat → Int32) × Int32 × Int32) (fun u => RDp (pA tx L 201 0 (n, N, o, ty, pa, pb, vo, nm)) u.2.2.2.2.2.2.2.2.2.2.2.1 u.2.2.2.2.2.2.2.2.2.2.2.2 u.2.2.2.1 u.2.2.2.2.1 u.2.2.2.2.2.1 u.2.2.2.2.2.2.1 u.2.2.2.2.2.2.2.1 u.2.2.2.2.2.2.2.2.1 u.2.2.2.2.2.2.2.2.2.1 u.2.2.2.2.2.2.2.2.2.2.1) (fun u => hk_Out D (va_A [(rd, .inr (4, [.ref tb, .ref a, .ref nb, .int kc, .int po, .int es, .int rs])), (tb, .inr (2, [.ref tc, .int (nI L)])), (tc, .inl (g.1, 200, .inl fc)), (nb, .inl (g.2.1, 3, .inl fn)), (a, .inr (1, [.ref t, .ref f1, .ref f2, .ref on, .int (nI n), .int (nI N), .int (nI o), .long nm, .int (nI cd), .int (nI wt)])), (t, .inl (g.2.1, 30, .inl ft)), (f1, .inl (g.2.1, 30, .inl fa)), (f2, .inl (g.2.1, 30, .inl fb)), (on, .inl (g.2.1, 6, .inl fo))] sz) (match u with | (k', po', n0', n', N', o', m', f1', f2', f3', f4', es', rs') => [(rd, .inr (4, [.ref tb, .ref a, .ref nb, .int k', .int po', .int es', .int rs'])), (tb, .inr (2, [.ref tc, .int (nI L)])), (tc, .inl (g.1, 200, .inl fc)), (nb, .inl (g.2.1, 3, .inl n0')), (a, .inr (1, [.ref t, .ref f1, .ref f2, .ref on, .int (nI n'), .int (nI N'), .int (nI o'), .long m', .int (nI cd), .int (nI wt)])), (t, .inl (g.2.1, 30, .inl f1')), (f1, .inl (g.2.1, 30, .inl f2')), (f2, .inl (g.2.1, 30, .inl f3')), (on, .inl (g.2.1, 6, .inl f4'))])) (va_A [(rd, .inr (4, [.ref tb, .ref a, .ref nb, .int kc, .int po, .int es, .int rs])), (tb, .inr (2, [.ref tc, .int (nI L)])), (tc, .inl (g.1, 200, .inl fc)), (nb, .inl (g.2.1, 3, .inl fn)), (a, .inr (1, [.ref t, .ref f1, .ref f2, .ref on, .int (nI n), .int (nI N), .int (nI o), .long nm, .int (nI cd), .int (nI wt)])), (t, .inl (g.2.1, 30, .inl ft)), (f1, .inl (g.2.1, 30, .inl fa)), (f2, .inl (g.2.1, 30, .inl fb)), (on, .inl (g.2.1, 6, .inl fo))] sz)) 0 0 (va_A [(rd, .inr (4, [.ref tb, .ref a, .ref nb, .int kc, .int po, .int es, .int rs])), (tb, .inr (2, [.ref tc, .int (nI L)])), (tc, .inl (g.1, 200, .inl fc)), (nb, .inl (g.2.1, 3, .inl fn)), (a, .inr (1, [.ref t, .ref f1, .ref f2, .ref on, .int (nI n), .int (nI N), .int (nI o), .long nm, .int (nI cd), .int (nI wt)])), (t, .inl (g.2.1, 30, .inl ft)), (f1, .inl (g.2.1, 30, .inl fa)), (f2, .inl (g.2.1, 30, .inl fb)), (on, .inl (g.2.1, 6, .inl fo))] sz) := by
  refine Met.ofW (cc := cX4_read) (maxL := 4) (ret := none) (by decide) rfl ?_
  intro p e s m args below meth c s₁ Bd hml hv
  obtain ⟨rfl, hsz, hP, hD0, hE⟩ := hv
  have hx := Bd.exec
  have hb := Bd.bytes
  have hr := Bd.returns
  have hts := atoms_spec (ws := wsX4_read) Bd.pre
  have hown : s.vm.findClass RX4 = some m.cls := findClass_of_methodNamed Bd.named
  have hlocks := Bd.notSynchronized
  have hK := hE.1
  have hi1 : ∀ w ∈ wsX10, w ∈ wsX4_read := fun w h => List.mem_cons_of_mem _ (List.mem_append_right _ h)
  have hi2 : ∀ w ∈ wsX20, w ∈ wsX4_read := fun w h => List.mem_cons_of_mem _ (List.mem_append_left _ (List.mem_append_right _ h))
  have hi4 : ∀ w ∈ wsX40, w ∈ wsX4_read := fun w h => List.mem_cons_of_mem _ (List.mem_append_left _ (List.mem_append_left _ (List.mem_append_right _ h)))
  subst hsz
  have hD := hD0.self (sz := s.heap.size)
  generalize hAe : va_A [(rd, .inr (4, [.ref tb, .ref a, .ref nb, .int kc, .int po, .int es, .int rs])), (tb, .inr (2, [.ref tc, .int (nI L)])), (tc, .inl (g.1, 200, .inl fc)), (nb, .inl (g.2.1, 3, .inl fn)), (a, .inr (1, [.ref t, .ref f1, .ref f2, .ref on, .int (nI n), .int (nI N), .int (nI o), .long nm, .int (nI cd), .int (nI wt)])), (t, .inl (g.2.1, 30, .inl ft)), (f1, .inl (g.2.1, 30, .inl fa)), (f2, .inl (g.2.1, 30, .inl fb)), (on, .inl (g.2.1, 6, .inl fo))] s.heap.size = A at hD hE ⊢
  have hA : ∀ q : Nat, s.heap.size ≤ q → A q := fun q h => by rw [← hAe]; exact Or.inr h
  have hS : va_S A s.heap s.heap [] := va_S.rf
  have hl := lv_entry ([.ref rd]) (n := 4) (Nat.le_of_ble_eq_true rfl)
  rw [lg_entry_eq]
  generalize (lg_sl ([.ref rd]) ++ List.replicate (4 - (lg_sl ([.ref rd])).length) Slot.unset).toArray = ls at hl ⊢
  have hl : lv_has ls 4 [(0, .ref rd)] := hl
  refine lv_aload_n hx hb dX4_read_0 rfl (lv_at hl 0 rfl) ?_
  refine lv_bipush (v := (-104)) hx hb dX4_read_1 (by decide) ?_
  refine va_put (D := D) (ci := 4) (v := .int (-104)) (ty := .int) (C := RX4) (T := TX4) (N := 7) hx hb hts hi4 tyX4 tyX4_ok nmX4 hown hK hP hD hS 0 rfl rfl 5 (by decide) (hts (.fieldLink RX4 26 "SelfCheckingCircuit$TextReader" "errorStart" "I") (by decide +kernel)) (fun _ h9 => h9) rfl (by decide +kernel) rfl rfl (Nat.le_of_ble_eq_true rfl) dX4_read_3 (fun H locs hP hD hS => ?_)
  have hP : va_P D vwCl [(rd, .inr (4, [.ref tb, .ref a, .ref nb, .int kc, .int po, .int (-104), .int rs])), (tb, .inr (2, [.ref tc, .int (nI L)])), (tc, .inl (g.1, 200, .inl fc)), (nb, .inl (g.2.1, 3, .inl fn)), (a, .inr (1, [.ref t, .ref f1, .ref f2, .ref on, .int (nI n), .int (nI N), .int (nI o), .long nm, .int (nI cd), .int (nI wt)])), (t, .inl (g.2.1, 30, .inl ft)), (f1, .inl (g.2.1, 30, .inl fa)), (f2, .inl (g.2.1, 30, .inl fb)), (on, .inl (g.2.1, 6, .inl fo))] H := hP
  have hD : va_D A [(rd, .inr (4, [.ref tb, .ref a, .ref nb, .int kc, .int po, .int (-104), .int rs])), (tb, .inr (2, [.ref tc, .int (nI L)])), (tc, .inl (g.1, 200, .inl fc)), (nb, .inl (g.2.1, 3, .inl fn)), (a, .inr (1, [.ref t, .ref f1, .ref f2, .ref on, .int (nI n), .int (nI N), .int (nI o), .long nm, .int (nI cd), .int (nI wt)])), (t, .inl (g.2.1, 30, .inl ft)), (f1, .inl (g.2.1, 30, .inl fa)), (f2, .inl (g.2.1, 30, .inl fb)), (on, .inl (g.2.1, 6, .inl fo))] := hD
  refine lv_aload_n hx hb dX4_read_6 rfl (lv_at hl 0 rfl) ?_
  refine lv_bipush (v := (-104)) hx hb dX4_read_7 (by decide) ?_
  refine va_put (D := D) (ci := 4) (v := .int (-104)) (ty := .int) (C := RX4) (T := TX4) (N := 7) hx hb hts hi4 tyX4 tyX4_ok nmX4 hown hK hP hD hS 0 rfl rfl 6 (by decide) (hts (.fieldLink RX4 30 "SelfCheckingCircuit$TextReader" "reason" "I") (by decide +kernel)) (fun _ h9 => h9) rfl (by decide +kernel) rfl rfl (Nat.le_of_ble_eq_true rfl) dX4_read_9 (fun H locs hP hD hS => ?_)
  have hP : va_P D vwCl [(rd, .inr (4, [.ref tb, .ref a, .ref nb, .int kc, .int po, .int (-104), .int (-104)])), (tb, .inr (2, [.ref tc, .int (nI L)])), (tc, .inl (g.1, 200, .inl fc)), (nb, .inl (g.2.1, 3, .inl fn)), (a, .inr (1, [.ref t, .ref f1, .ref f2, .ref on, .int (nI n), .int (nI N), .int (nI o), .long nm, .int (nI cd), .int (nI wt)])), (t, .inl (g.2.1, 30, .inl ft)), (f1, .inl (g.2.1, 30, .inl fa)), (f2, .inl (g.2.1, 30, .inl fb)), (on, .inl (g.2.1, 6, .inl fo))] H := hP
  have hD : va_D A [(rd, .inr (4, [.ref tb, .ref a, .ref nb, .int kc, .int po, .int (-104), .int (-104)])), (tb, .inr (2, [.ref tc, .int (nI L)])), (tc, .inl (g.1, 200, .inl fc)), (nb, .inl (g.2.1, 3, .inl fn)), (a, .inr (1, [.ref t, .ref f1, .ref f2, .ref on, .int (nI n), .int (nI N), .int (nI o), .long nm, .int (nI cd), .int (nI wt)])), (t, .inl (g.2.1, 30, .inl ft)), (f1, .inl (g.2.1, 30, .inl fa)), (f2, .inl (g.2.1, 30, .inl fb)), (on, .inl (g.2.1, 6, .inl fo))] := hD
  refine lv_aload_n hx hb dX4_read_12 rfl (lv_at hl 0 rfl) ?_
  refine lv_iconst (v := 0) hx hb dX4_read_13 (by decide) ?_
  refine va_put (D := D) (ci := 4) (v := .int 0) (ty := .int) (C := RX4) (T := TX4) (N := 7) hx hb hts hi4 tyX4 tyX4_ok nmX4 hown hK hP hD hS 0 rfl rfl 4 (by decide) (hts (.fieldLink RX4 33 "SelfCheckingCircuit$TextReader" "position" "I") (by decide +kernel)) (fun _ h9 => h9) rfl (by decide +kernel) rfl rfl (Nat.le_of_ble_eq_true rfl) dX4_read_14 (fun H locs hP hD hS => ?_)
  have hP : va_P D vwCl [(rd, .inr (4, [.ref tb, .ref a, .ref nb, .int kc, .int 0, .int (-104), .int (-104)])), (tb, .inr (2, [.ref tc, .int (nI L)])), (tc, .inl (g.1, 200, .inl fc)), (nb, .inl (g.2.1, 3, .inl fn)), (a, .inr (1, [.ref t, .ref f1, .ref f2, .ref on, .int (nI n), .int (nI N), .int (nI o), .long nm, .int (nI cd), .int (nI wt)])), (t, .inl (g.2.1, 30, .inl ft)), (f1, .inl (g.2.1, 30, .inl fa)), (f2, .inl (g.2.1, 30, .inl fb)), (on, .inl (g.2.1, 6, .inl fo))] H := hP
  have hD : va_D A [(rd, .inr (4, [.ref tb, .ref a, .ref nb, .int kc, .int 0, .int (-104), .int (-104)])), (tb, .inr (2, [.ref tc, .int (nI L)])), (tc, .inl (g.1, 200, .inl fc)), (nb, .inl (g.2.1, 3, .inl fn)), (a, .inr (1, [.ref t, .ref f1, .ref f2, .ref on, .int (nI n), .int (nI N), .int (nI o), .long nm, .int (nI cd), .int (nI wt)])), (t, .inl (g.2.1, 30, .inl ft)), (f1, .inl (g.2.1, 30, .inl fa)), (f2, .inl (g.2.1, 30, .inl fb)), (on, .inl (g.2.1, 6, .inl fo))] := hD
  refine lv_iconst (v := 0) hx hb dX4_read_17 (by decide) ?_
  refine lv_istore_n (lv' := [(1, .int 0), (0, .ref rd)]) hx hb dX4_read_18 rfl hl (by decide) rfl (fun ls hl => ?_)
  have loop19 : ∀ (fuel : Nat) (k : Nat) (pz : Nat) (kc2 : Int32) (fn2 : Nat → Int32) (n2 : Nat) (N2 : Nat) (o2 : Nat) (nm2 : Int64) (ft2 : Nat → Int32) (fa2 : Nat → Int32) (fb2 : Nat → Int32) (fo2 : Nat → Int32) (ty2 : Nat → Nat) (pa2 : Nat → Nat) (pb2 : Nat → Nat) (vo2 : Nat → Nat), (201 - k) < fuel → (k ≤ pz) → (pz ≤ L) → (CR n2 N2 o2 ty2 pa2 pb2 vo2 nm2 ft2 fa2 fb2 fo2) → (pA tx L (201 - k) pz (n2, N2, o2, ty2, pa2, pb2, vo2, nm2) = pA tx L 201 0 (n, N, o, ty, pa, pb, vo, nm)) → ∀ (H : Heap) (locs : List Loc), va_P D vwCl [(rd, .inr (4, [.ref tb, .ref a, .ref nb, .int kc2, .int (nI pz), .int (-104), .int (-104)])), (tb, .inr (2, [.ref tc, .int (nI L)])), (tc, .inl (g.1, 200, .inl fc)), (nb, .inl (g.2.1, 3, .inl fn2)), (a, .inr (1, [.ref t, .ref f1, .ref f2, .ref on, .int (nI n2), .int (nI N2), .int (nI o2), .long nm2, .int (nI cd), .int (nI wt)])), (t, .inl (g.2.1, 30, .inl ft2)), (f1, .inl (g.2.1, 30, .inl fa2)), (f2, .inl (g.2.1, 30, .inl fb2)), (on, .inl (g.2.1, 6, .inl fo2))] H → va_D A [(rd, .inr (4, [.ref tb, .ref a, .ref nb, .int kc2, .int (nI pz), .int (-104), .int (-104)])), (tb, .inr (2, [.ref tc, .int (nI L)])), (tc, .inl (g.1, 200, .inl fc)), (nb, .inl (g.2.1, 3, .inl fn2)), (a, .inr (1, [.ref t, .ref f1, .ref f2, .ref on, .int (nI n2), .int (nI N2), .int (nI o2), .long nm2, .int (nI cd), .int (nI wt)])), (t, .inl (g.2.1, 30, .inl ft2)), (f1, .inl (g.2.1, 30, .inl fa2)), (f2, .inl (g.2.1, 30, .inl fb2)), (on, .inl (g.2.1, 6, .inl fo2))] → va_S A s.heap H locs → ∀ ls : Array Slot, lv_has ls 4 [(1, .int (nI k)), (0, .ref rd)] → W p l e (headSpec wsX4_read ({ frames := 4, cells := 0, slots := 0, locals := 90 })).room s m ([.ref rd] : List Value).toArray below meth c H locs 0 0 (MQ below (va_Qv (S := Int32 × Int32 × (Nat → Int32) × Nat × Nat × Nat × Int64 × (Nat → Int32) × (Nat → Int32) × (Nat → Int32) × (Nat → Int32) × Int32 × Int32) (fun u => RDp (pA tx L 201 0 (n, N, o, ty, pa, pb, vo, nm)) u.2.2.2.2.2.2.2.2.2.2.2.1 u.2.2.2.2.2.2.2.2.2.2.2.2 u.2.2.2.1 u.2.2.2.2.1 u.2.2.2.2.2.1 u.2.2.2.2.2.2.1 u.2.2.2.2.2.2.2.1 u.2.2.2.2.2.2.2.2.1 u.2.2.2.2.2.2.2.2.2.1 u.2.2.2.2.2.2.2.2.2.2.1) (fun u => hk_Out D A (match u with | (k', po', n0', n', N', o', m', f1', f2', f3', f4', es', rs') => [(rd, .inr (4, [.ref tb, .ref a, .ref nb, .int k', .int po', .int es', .int rs'])), (tb, .inr (2, [.ref tc, .int (nI L)])), (tc, .inl (g.1, 200, .inl fc)), (nb, .inl (g.2.1, 3, .inl n0')), (a, .inr (1, [.ref t, .ref f1, .ref f2, .ref on, .int (nI n'), .int (nI N'), .int (nI o'), .long m', .int (nI cd), .int (nI wt)])), (t, .inl (g.2.1, 30, .inl f1')), (f1, .inl (g.2.1, 30, .inl f2')), (f2, .inl (g.2.1, 30, .inl f3')), (on, .inl (g.2.1, 6, .inl f4'))])) A) ([.ref rd] : List Value).toArray s 0 0 A) (F0 m 19 ls []) := by
    intro fuel
    induction fuel with
    | zero => intro k pz kc2 fn2 n2 N2 o2 nm2 ft2 fa2 fb2 fo2 ty2 pa2 pb2 vo2 hm; exact absurd hm (Nat.not_lt_zero _)
    | succ fuel ih_19 =>
      intro k pz kc2 fn2 n2 N2 o2 nm2 ft2 fa2 fb2 fo2 ty2 pa2 pb2 vo2 hm_19 hk hzL hV2 hA2 H locs hP hD hS ls hl
      refine lv_iload_n hx hb dX4_read_19 rfl (lv_at hl 0 rfl) ?_
      refine lv_sipush (v := 200) hx hb dX4_read_20 (by decide) ?_
      refine lv_icmp_ge (tgt := 71) hx hb dX4_read_23 (by decide) (fun c_1 => ?_) (fun c_1 => ?_)
      · have c_1h : (200 : Int32) ≤ nI k := c_1
        refine lv_aload_n hx hb dX4_read_71 rfl (lv_at hl 1 rfl) ?_
        refine va_get (D := D) (ci := 4) (v := .ref a) (C := RX4) (T := TX4) (N := 7) hx hb hts hi4 hown hK hP 0 rfl rfl 1 (by decide) (hts (.fieldLink RX4 12 "SelfCheckingCircuit$TextReader" "draft" "LSelfCheckingCircuit$Circuit;") (by decide +kernel)) (fun _ h9 => h9) rfl dX4_read_72 ?_
        refine va_getN (D := D) (ci := 1) (v := .long nm2) (C := RX1) (T := TX1) (N := 10) hx hb hts hi1 hown hK hP 4 rfl rfl 7 (by decide) (nf_X4_45 hE.2.1) (fun _ h9 => h9) rfl dX4_read_75 ?_
        refine lv_lconst (v := 0) hx hb dX4_read_78 (by decide) ?_
        refine W.lcmp hx hb dX4_read_79 ?_
        refine lv_if_ne (tgt := 97) hx hb dX4_read_80 (by decide) (fun c_2 => ?_) (fun c_2 => ?_)
        · have c_2h : ¬ (lg_cmp nm2 (0 : Int64)) = (0 : Int32) := c_2
          have hze : ¬ pz < L := by have := hk_ge 200 c_1 (hi := by have := hX.1; omega); have := hX.1; omega
          have hP9 := hP.sub (ws' := [(rd, .inr (4, [.ref tb, .ref a, .ref nb, .int kc2, .int (nI pz), .int (-104), .int (-104)])), (tb, .inr (2, [.ref tc, .int (nI L)])), (tc, .inl (g.1, 200, .inl fc)), (nb, .inl (g.2.1, 3, .inl fn2)), (a, .inr (1, [.ref t, .ref f1, .ref f2, .ref on, .int (nI n2), .int (nI N2), .int (nI o2), .long nm2, .int (nI cd), .int (nI wt)])), (t, .inl (g.2.1, 30, .inl ft2)), (f1, .inl (g.2.1, 30, .inl fa2)), (f2, .inl (g.2.1, 30, .inl fb2)), (on, .inl (g.2.1, 6, .inl fo2))]) [0, 1, 2, 3, 4, 5, 6, 7, 8] rfl
          have hD9 := hD.sub (ws' := [(rd, .inr (4, [.ref tb, .ref a, .ref nb, .int kc2, .int (nI pz), .int (-104), .int (-104)])), (tb, .inr (2, [.ref tc, .int (nI L)])), (tc, .inl (g.1, 200, .inl fc)), (nb, .inl (g.2.1, 3, .inl fn2)), (a, .inr (1, [.ref t, .ref f1, .ref f2, .ref on, .int (nI n2), .int (nI N2), .int (nI o2), .long nm2, .int (nI cd), .int (nI wt)])), (t, .inl (g.2.1, 30, .inl ft2)), (f1, .inl (g.2.1, 30, .inl fa2)), (f2, .inl (g.2.1, 30, .inl fb2)), (on, .inl (g.2.1, 6, .inl fo2))]) [0, 1, 2, 3, 4, 5, 6, 7, 8] (by decide) rfl
          exact W.vret hx hb hr (fun tt ht hW => ⟨⟨(kc2, (nI pz), fn2, n2, N2, o2, nm2, ft2, fa2, fb2, fo2, (-104), (-104)), rfl, rd_b hV2 ((pA_end hze _).symm.trans hA2) (fun q => c_2 ((lg_0 _ _).mpr q)), by rw [ht]; exact hP9, hD9⟩, hS.F ht⟩) hS.2.2 dX4_read_97
        · have c_2h : (lg_cmp nm2 (0 : Int64)) = (0 : Int32) := c_2
          refine lv_aload_n hx hb dX4_read_83 rfl (lv_at hl 1 rfl) ?_
          refine va_get (D := D) (ci := 4) (v := .ref a) (C := RX4) (T := TX4) (N := 7) hx hb hts hi4 hown hK hP 0 rfl rfl 1 (by decide) (hts (.fieldLink RX4 12 "SelfCheckingCircuit$TextReader" "draft" "LSelfCheckingCircuit$Circuit;") (by decide +kernel)) (fun _ h9 => h9) rfl dX4_read_84 ?_
          refine lv_aload_n hx hb dX4_read_87 rfl (lv_at hl 1 rfl) ?_
          refine va_get (D := D) (ci := 4) (v := .ref a) (C := RX4) (T := TX4) (N := 7) hx hb hts hi4 hown hK hP 0 rfl rfl 1 (by decide) (hts (.fieldLink RX4 12 "SelfCheckingCircuit$TextReader" "draft" "LSelfCheckingCircuit$Circuit;") (by decide +kernel)) (fun _ h9 => h9) rfl dX4_read_88 ?_
          refine hk_csl (va_runVN (As := []) (rest := [.ref a]) ⟨hx, hb, hml, hown, hts⟩ (c1_words l D g ti a (.ref t) (.ref f1) (.ref f2) (.ref on) (nI n2) (nI N2) (nI o2) nm2 (nI cd) (nI wt) ) ⟨va_cnB 0 hts gX4_read_X1_words_n49 rfl rfl rfl (nm_X4_49 hE.2.1) (hts (.initialized RX1) (by decide +kernel)) (by decide +kernel) ⟨Nat.le_of_ble_eq_true rfl, Nat.le_of_ble_eq_true rfl⟩, hts (.instanceMethod yX1_words) (by decide +kernel), hts (.selects RX1 yX1_words yX1_words) (by decide +kernel)⟩ (hk_roV hE hP hS 1 rfl rfl [4] rfl rfl) rfl rfl hl.1 rfl (lv_room (Nat.le_of_ble_eq_true rfl)) dX4_read_91 ⟨Nat.zero_le _, Nat.zero_le _⟩) (fun r_3 hr_4 => ?_)
          subst hr_4
          refine va_putN (D := D) (ci := 1) (v := .long ((((-1) : Int64).toUInt64 >>> ((64 - ((1 : Int32) <<< ((nI n2) &&& 31))).toInt64.toUInt64 &&& Int64.toUInt64 63)).toInt64)) (ty := .long) (C := RX1) (T := TX1) (N := 10) hx hb hts hi1 tyX1 tyX1_ok nmX1 hown hK hP hD hS 4 rfl rfl 7 (by decide) (nf_X4_45 hE.2.1) (fun _ h9 => h9) rfl (by decide +kernel) rfl rfl (Nat.le_of_ble_eq_true rfl) dX4_read_94 (fun H locs hP hD hS => ?_)
          have hP : va_P D vwCl [(rd, .inr (4, [.ref tb, .ref a, .ref nb, .int kc2, .int (nI pz), .int (-104), .int (-104)])), (tb, .inr (2, [.ref tc, .int (nI L)])), (tc, .inl (g.1, 200, .inl fc)), (nb, .inl (g.2.1, 3, .inl fn2)), (a, .inr (1, [.ref t, .ref f1, .ref f2, .ref on, .int (nI n2), .int (nI N2), .int (nI o2), .long ((((-1) : Int64).toUInt64 >>> ((64 - ((1 : Int32) <<< ((nI n2) &&& 31))).toInt64.toUInt64 &&& Int64.toUInt64 63)).toInt64), .int (nI cd), .int (nI wt)])), (t, .inl (g.2.1, 30, .inl ft2)), (f1, .inl (g.2.1, 30, .inl fa2)), (f2, .inl (g.2.1, 30, .inl fb2)), (on, .inl (g.2.1, 6, .inl fo2))] H := hP
          have hD : va_D A [(rd, .inr (4, [.ref tb, .ref a, .ref nb, .int kc2, .int (nI pz), .int (-104), .int (-104)])), (tb, .inr (2, [.ref tc, .int (nI L)])), (tc, .inl (g.1, 200, .inl fc)), (nb, .inl (g.2.1, 3, .inl fn2)), (a, .inr (1, [.ref t, .ref f1, .ref f2, .ref on, .int (nI n2), .int (nI N2), .int (nI o2), .long ((((-1) : Int64).toUInt64 >>> ((64 - ((1 : Int32) <<< ((nI n2) &&& 31))).toInt64.toUInt64 &&& Int64.toUInt64 63)).toInt64), .int (nI cd), .int (nI wt)])), (t, .inl (g.2.1, 30, .inl ft2)), (f1, .inl (g.2.1, 30, .inl fa2)), (f2, .inl (g.2.1, 30, .inl fb2)), (on, .inl (g.2.1, 6, .inl fo2))] := hD
          have hze : ¬ pz < L := by have := hk_ge 200 c_1 (hi := by have := hX.1; omega); have := hX.1; omega
          have hP9 := hP.sub (ws' := [(rd, .inr (4, [.ref tb, .ref a, .ref nb, .int kc2, .int (nI pz), .int (-104), .int (-104)])), (tb, .inr (2, [.ref tc, .int (nI L)])), (tc, .inl (g.1, 200, .inl fc)), (nb, .inl (g.2.1, 3, .inl fn2)), (a, .inr (1, [.ref t, .ref f1, .ref f2, .ref on, .int (nI n2), .int (nI N2), .int (nI o2), .long ((((-1) : Int64).toUInt64 >>> ((64 - ((1 : Int32) <<< ((nI n2) &&& 31))).toInt64.toUInt64 &&& Int64.toUInt64 63)).toInt64), .int (nI cd), .int (nI wt)])), (t, .inl (g.2.1, 30, .inl ft2)), (f1, .inl (g.2.1, 30, .inl fa2)), (f2, .inl (g.2.1, 30, .inl fb2)), (on, .inl (g.2.1, 6, .inl fo2))]) [0, 1, 2, 3, 4, 5, 6, 7, 8] rfl
          have hD9 := hD.sub (ws' := [(rd, .inr (4, [.ref tb, .ref a, .ref nb, .int kc2, .int (nI pz), .int (-104), .int (-104)])), (tb, .inr (2, [.ref tc, .int (nI L)])), (tc, .inl (g.1, 200, .inl fc)), (nb, .inl (g.2.1, 3, .inl fn2)), (a, .inr (1, [.ref t, .ref f1, .ref f2, .ref on, .int (nI n2), .int (nI N2), .int (nI o2), .long ((((-1) : Int64).toUInt64 >>> ((64 - ((1 : Int32) <<< ((nI n2) &&& 31))).toInt64.toUInt64 &&& Int64.toUInt64 63)).toInt64), .int (nI cd), .int (nI wt)])), (t, .inl (g.2.1, 30, .inl ft2)), (f1, .inl (g.2.1, 30, .inl fa2)), (f2, .inl (g.2.1, 30, .inl fb2)), (on, .inl (g.2.1, 6, .inl fo2))]) [0, 1, 2, 3, 4, 5, 6, 7, 8] (by decide) rfl
          exact W.vret hx hb hr (fun tt ht hW => ⟨⟨(kc2, (nI pz), fn2, n2, N2, o2, ((((-1) : Int64).toUInt64 >>> ((64 - ((1 : Int32) <<< ((nI n2) &&& 31))).toInt64.toUInt64 &&& Int64.toUInt64 63)).toInt64), ft2, fa2, fb2, fo2, (-104), (-104)), rfl, rd_a hV2 ((pA_end hze _).symm.trans hA2) ((lg_0 _ _).mp c_2), by rw [ht]; exact hP9, hD9⟩, hS.F ht⟩) hS.2.2 dX4_read_97
      · have c_1h : ¬ (200 : Int32) ≤ nI k := c_1
        refine lv_aload_n hx hb dX4_read_26 rfl (lv_at hl 1 rfl) ?_
        refine va_get (D := D) (ci := 4) (v := .int (nI pz)) (C := RX4) (T := TX4) (N := 7) hx hb hts hi4 hown hK hP 0 rfl rfl 4 (by decide) (hts (.fieldLink RX4 33 "SelfCheckingCircuit$TextReader" "position" "I") (by decide +kernel)) (fun _ h9 => h9) rfl dX4_read_27 ?_
        refine lv_aload_n hx hb dX4_read_30 rfl (lv_at hl 1 rfl) ?_
        refine va_get (D := D) (ci := 4) (v := .ref tb) (C := RX4) (T := TX4) (N := 7) hx hb hts hi4 hown hK hP 0 rfl rfl 0 (by decide) (hts (.fieldLink RX4 22 "SelfCheckingCircuit$TextReader" "text" "LSelfCheckingCircuit$CircuitText;") (by decide +kernel)) (fun _ h9 => h9) rfl dX4_read_31 ?_
        refine va_getN (D := D) (ci := 2) (v := .int (nI L)) (C := RX2) (T := TX2) (N := 2) hx hb hts hi2 hown hK hP 1 rfl rfl 1 (by decide) (nf_X4_36 hE.2.1) (fun _ h9 => h9) rfl dX4_read_34 ?_
        refine lv_icmp_ge (tgt := 71) hx hb dX4_read_37 (by decide) (fun c_5 => ?_) (fun c_5 => ?_)
        · have c_5h : nI L ≤ nI pz := c_5
          refine lv_aload_n hx hb dX4_read_71 rfl (lv_at hl 1 rfl) ?_
          refine va_get (D := D) (ci := 4) (v := .ref a) (C := RX4) (T := TX4) (N := 7) hx hb hts hi4 hown hK hP 0 rfl rfl 1 (by decide) (hts (.fieldLink RX4 12 "SelfCheckingCircuit$TextReader" "draft" "LSelfCheckingCircuit$Circuit;") (by decide +kernel)) (fun _ h9 => h9) rfl dX4_read_72 ?_
          refine va_getN (D := D) (ci := 1) (v := .long nm2) (C := RX1) (T := TX1) (N := 10) hx hb hts hi1 hown hK hP 4 rfl rfl 7 (by decide) (nf_X4_45 hE.2.1) (fun _ h9 => h9) rfl dX4_read_75 ?_
          refine lv_lconst (v := 0) hx hb dX4_read_78 (by decide) ?_
          refine W.lcmp hx hb dX4_read_79 ?_
          refine lv_if_ne (tgt := 97) hx hb dX4_read_80 (by decide) (fun c_6 => ?_) (fun c_6 => ?_)
          · have c_6h : ¬ (lg_cmp nm2 (0 : Int64)) = (0 : Int32) := c_6
            have hze : ¬ pz < L := by have := hk_ge L c_5 (hi := by have := hX.1; omega) (hn := by have := hX.1; omega); omega
            have hP9 := hP.sub (ws' := [(rd, .inr (4, [.ref tb, .ref a, .ref nb, .int kc2, .int (nI pz), .int (-104), .int (-104)])), (tb, .inr (2, [.ref tc, .int (nI L)])), (tc, .inl (g.1, 200, .inl fc)), (nb, .inl (g.2.1, 3, .inl fn2)), (a, .inr (1, [.ref t, .ref f1, .ref f2, .ref on, .int (nI n2), .int (nI N2), .int (nI o2), .long nm2, .int (nI cd), .int (nI wt)])), (t, .inl (g.2.1, 30, .inl ft2)), (f1, .inl (g.2.1, 30, .inl fa2)), (f2, .inl (g.2.1, 30, .inl fb2)), (on, .inl (g.2.1, 6, .inl fo2))]) [0, 1, 2, 3, 4, 5, 6, 7, 8] rfl
            have hD9 := hD.sub (ws' := [(rd, .inr (4, [.ref tb, .ref a, .ref nb, .int kc2, .int (nI pz), .int (-104), .int (-104)])), (tb, .inr (2, [.ref tc, .int (nI L)])), (tc, .inl (g.1, 200, .inl fc)), (nb, .inl (g.2.1, 3, .inl fn2)), (a, .inr (1, [.ref t, .ref f1, .ref f2, .ref on, .int (nI n2), .int (nI N2), .int (nI o2), .long nm2, .int (nI cd), .int (nI wt)])), (t, .inl (g.2.1, 30, .inl ft2)), (f1, .inl (g.2.1, 30, .inl fa2)), (f2, .inl (g.2.1, 30, .inl fb2)), (on, .inl (g.2.1, 6, .inl fo2))]) [0, 1, 2, 3, 4, 5, 6, 7, 8] (by decide) rfl
            exact W.vret hx hb hr (fun tt ht hW => ⟨⟨(kc2, (nI pz), fn2, n2, N2, o2, nm2, ft2, fa2, fb2, fo2, (-104), (-104)), rfl, rd_b hV2 ((pA_end hze _).symm.trans hA2) (fun q => c_6 ((lg_0 _ _).mpr q)), by rw [ht]; exact hP9, hD9⟩, hS.F ht⟩) hS.2.2 dX4_read_97
          · have c_6h : (lg_cmp nm2 (0 : Int64)) = (0 : Int32) := c_6
            refine lv_aload_n hx hb dX4_read_83 rfl (lv_at hl 1 rfl) ?_
            refine va_get (D := D) (ci := 4) (v := .ref a) (C := RX4) (T := TX4) (N := 7) hx hb hts hi4 hown hK hP 0 rfl rfl 1 (by decide) (hts (.fieldLink RX4 12 "SelfCheckingCircuit$TextReader" "draft" "LSelfCheckingCircuit$Circuit;") (by decide +kernel)) (fun _ h9 => h9) rfl dX4_read_84 ?_
            refine lv_aload_n hx hb dX4_read_87 rfl (lv_at hl 1 rfl) ?_
            refine va_get (D := D) (ci := 4) (v := .ref a) (C := RX4) (T := TX4) (N := 7) hx hb hts hi4 hown hK hP 0 rfl rfl 1 (by decide) (hts (.fieldLink RX4 12 "SelfCheckingCircuit$TextReader" "draft" "LSelfCheckingCircuit$Circuit;") (by decide +kernel)) (fun _ h9 => h9) rfl dX4_read_88 ?_
            refine hk_csl (va_runVN (As := []) (rest := [.ref a]) ⟨hx, hb, hml, hown, hts⟩ (c1_words l D g ti a (.ref t) (.ref f1) (.ref f2) (.ref on) (nI n2) (nI N2) (nI o2) nm2 (nI cd) (nI wt) ) ⟨va_cnB 0 hts gX4_read_X1_words_n49 rfl rfl rfl (nm_X4_49 hE.2.1) (hts (.initialized RX1) (by decide +kernel)) (by decide +kernel) ⟨Nat.le_of_ble_eq_true rfl, Nat.le_of_ble_eq_true rfl⟩, hts (.instanceMethod yX1_words) (by decide +kernel), hts (.selects RX1 yX1_words yX1_words) (by decide +kernel)⟩ (hk_roV hE hP hS 1 rfl rfl [4] rfl rfl) rfl rfl hl.1 rfl (lv_room (Nat.le_of_ble_eq_true rfl)) dX4_read_91 ⟨Nat.zero_le _, Nat.zero_le _⟩) (fun r_7 hr_8 => ?_)
            subst hr_8
            refine va_putN (D := D) (ci := 1) (v := .long ((((-1) : Int64).toUInt64 >>> ((64 - ((1 : Int32) <<< ((nI n2) &&& 31))).toInt64.toUInt64 &&& Int64.toUInt64 63)).toInt64)) (ty := .long) (C := RX1) (T := TX1) (N := 10) hx hb hts hi1 tyX1 tyX1_ok nmX1 hown hK hP hD hS 4 rfl rfl 7 (by decide) (nf_X4_45 hE.2.1) (fun _ h9 => h9) rfl (by decide +kernel) rfl rfl (Nat.le_of_ble_eq_true rfl) dX4_read_94 (fun H locs hP hD hS => ?_)
            have hP : va_P D vwCl [(rd, .inr (4, [.ref tb, .ref a, .ref nb, .int kc2, .int (nI pz), .int (-104), .int (-104)])), (tb, .inr (2, [.ref tc, .int (nI L)])), (tc, .inl (g.1, 200, .inl fc)), (nb, .inl (g.2.1, 3, .inl fn2)), (a, .inr (1, [.ref t, .ref f1, .ref f2, .ref on, .int (nI n2), .int (nI N2), .int (nI o2), .long ((((-1) : Int64).toUInt64 >>> ((64 - ((1 : Int32) <<< ((nI n2) &&& 31))).toInt64.toUInt64 &&& Int64.toUInt64 63)).toInt64), .int (nI cd), .int (nI wt)])), (t, .inl (g.2.1, 30, .inl ft2)), (f1, .inl (g.2.1, 30, .inl fa2)), (f2, .inl (g.2.1, 30, .inl fb2)), (on, .inl (g.2.1, 6, .inl fo2))] H := hP
            have hD : va_D A [(rd, .inr (4, [.ref tb, .ref a, .ref nb, .int kc2, .int (nI pz), .int (-104), .int (-104)])), (tb, .inr (2, [.ref tc, .int (nI L)])), (tc, .inl (g.1, 200, .inl fc)), (nb, .inl (g.2.1, 3, .inl fn2)), (a, .inr (1, [.ref t, .ref f1, .ref f2, .ref on, .int (nI n2), .int (nI N2), .int (nI o2), .long ((((-1) : Int64).toUInt64 >>> ((64 - ((1 : Int32) <<< ((nI n2) &&& 31))).toInt64.toUInt64 &&& Int64.toUInt64 63)).toInt64), .int (nI cd), .int (nI wt)])), (t, .inl (g.2.1, 30, .inl ft2)), (f1, .inl (g.2.1, 30, .inl fa2)), (f2, .inl (g.2.1, 30, .inl fb2)), (on, .inl (g.2.1, 6, .inl fo2))] := hD
            have hze : ¬ pz < L := by have := hk_ge L c_5 (hi := by have := hX.1; omega) (hn := by have := hX.1; omega); omega
            have hP9 := hP.sub (ws' := [(rd, .inr (4, [.ref tb, .ref a, .ref nb, .int kc2, .int (nI pz), .int (-104), .int (-104)])), (tb, .inr (2, [.ref tc, .int (nI L)])), (tc, .inl (g.1, 200, .inl fc)), (nb, .inl (g.2.1, 3, .inl fn2)), (a, .inr (1, [.ref t, .ref f1, .ref f2, .ref on, .int (nI n2), .int (nI N2), .int (nI o2), .long ((((-1) : Int64).toUInt64 >>> ((64 - ((1 : Int32) <<< ((nI n2) &&& 31))).toInt64.toUInt64 &&& Int64.toUInt64 63)).toInt64), .int (nI cd), .int (nI wt)])), (t, .inl (g.2.1, 30, .inl ft2)), (f1, .inl (g.2.1, 30, .inl fa2)), (f2, .inl (g.2.1, 30, .inl fb2)), (on, .inl (g.2.1, 6, .inl fo2))]) [0, 1, 2, 3, 4, 5, 6, 7, 8] rfl
            have hD9 := hD.sub (ws' := [(rd, .inr (4, [.ref tb, .ref a, .ref nb, .int kc2, .int (nI pz), .int (-104), .int (-104)])), (tb, .inr (2, [.ref tc, .int (nI L)])), (tc, .inl (g.1, 200, .inl fc)), (nb, .inl (g.2.1, 3, .inl fn2)), (a, .inr (1, [.ref t, .ref f1, .ref f2, .ref on, .int (nI n2), .int (nI N2), .int (nI o2), .long ((((-1) : Int64).toUInt64 >>> ((64 - ((1 : Int32) <<< ((nI n2) &&& 31))).toInt64.toUInt64 &&& Int64.toUInt64 63)).toInt64), .int (nI cd), .int (nI wt)])), (t, .inl (g.2.1, 30, .inl ft2)), (f1, .inl (g.2.1, 30, .inl fa2)), (f2, .inl (g.2.1, 30, .inl fb2)), (on, .inl (g.2.1, 6, .inl fo2))]) [0, 1, 2, 3, 4, 5, 6, 7, 8] (by decide) rfl
            exact W.vret hx hb hr (fun tt ht hW => ⟨⟨(kc2, (nI pz), fn2, n2, N2, o2, ((((-1) : Int64).toUInt64 >>> ((64 - ((1 : Int32) <<< ((nI n2) &&& 31))).toInt64.toUInt64 &&& Int64.toUInt64 63)).toInt64), ft2, fa2, fb2, fo2, (-104), (-104)), rfl, rd_a hV2 ((pA_end hze _).symm.trans hA2) ((lg_0 _ _).mp c_6), by rw [ht]; exact hP9, hD9⟩, hS.F ht⟩) hS.2.2 dX4_read_97
        · have c_5h : ¬ nI L ≤ nI pz := c_5
          refine lv_aload_n hx hb dX4_read_40 rfl (lv_at hl 1 rfl) ?_
          refine va_get (D := D) (ci := 4) (v := .int (nI pz)) (C := RX4) (T := TX4) (N := 7) hx hb hts hi4 hown hK hP 0 rfl rfl 4 (by decide) (hts (.fieldLink RX4 33 "SelfCheckingCircuit$TextReader" "position" "I") (by decide +kernel)) (fun _ h9 => h9) rfl dX4_read_41 ?_
          refine lv_istore_n (lv' := [(2, .int (nI pz)), (1, .int (nI k)), (0, .ref rd)]) hx hb dX4_read_44 rfl hl (by decide) rfl (fun ls hl => ?_)
          refine lv_aload_n hx hb dX4_read_45 rfl (lv_at hl 2 rfl) ?_
          refine hk_cmi (wr := []) (va_runV (As := []) (rest := []) ⟨hx, hb, hml, hown, hts⟩ (c4_readStatement l D g ti _ rd tb tc fc tx L pz nb fn2 kc2 (-104) (-104) a t f1 f2 on ft2 fa2 fb2 fo2 n2 N2 o2 nm2 cd wt ty2 pa2 pb2 vo2 hX hcn (by have := hX.1; omega) hV2) (cwV 0 hts gX4_read_X4_readStatement rfl rfl rfl (by decide +kernel) ⟨Nat.le_of_ble_eq_true rfl, Nat.le_of_ble_eq_true rfl⟩) (hk_inV hE hP hD hS hA 4 rfl rfl [0, 1, 2, 3, 4, 5, 6, 7, 8] (by decide) rfl rfl) rfl rfl hl.1 rfl (lv_room (Nat.le_of_ble_eq_true rfl)) dX4_read_46 ⟨Nat.zero_le _, Nat.zero_le _⟩) hP hD hS hA [0, 1, 2, 3, 4, 5, 6, 7, 8] [] rfl rfl (by decide) (by decide) (fun r8 u8 H locs hrs hP hD hS => ?_)
          obtain ⟨k8, q8, fn8, n8, N8, o8, m8, f81, f82, f83, f84⟩ := u8
          try dsimp only at hrs
          have hP : va_P D vwCl [(rd, .inr (4, [.ref tb, .ref a, .ref nb, .int k8, .int (nI q8), .int (-104), .int (-104)])), (tb, .inr (2, [.ref tc, .int (nI L)])), (tc, .inl (g.1, 200, .inl fc)), (nb, .inl (g.2.1, 3, .inl fn8)), (a, .inr (1, [.ref t, .ref f1, .ref f2, .ref on, .int (nI n8), .int (nI N8), .int (nI o8), .long m8, .int (nI cd), .int (nI wt)])), (t, .inl (g.2.1, 30, .inl f81)), (f1, .inl (g.2.1, 30, .inl f82)), (f2, .inl (g.2.1, 30, .inl f83)), (on, .inl (g.2.1, 6, .inl f84))] H := hP
          have hD : va_D A [(rd, .inr (4, [.ref tb, .ref a, .ref nb, .int k8, .int (nI q8), .int (-104), .int (-104)])), (tb, .inr (2, [.ref tc, .int (nI L)])), (tc, .inl (g.1, 200, .inl fc)), (nb, .inl (g.2.1, 3, .inl fn8)), (a, .inr (1, [.ref t, .ref f1, .ref f2, .ref on, .int (nI n8), .int (nI N8), .int (nI o8), .long m8, .int (nI cd), .int (nI wt)])), (t, .inl (g.2.1, 30, .inl f81)), (f1, .inl (g.2.1, 30, .inl f82)), (f2, .inl (g.2.1, 30, .inl f83)), (on, .inl (g.2.1, 6, .inl f84))] := hD
          have hzl : pz < L := hk_nge L c_5 (hi := by have := hX.1; omega) (hn := by have := hX.1; omega)
          obtain ⟨hr8, hq8, ty8, pa8, pb8, vo8, hv8, hC8⟩ := hrs
          refine lv_istore_n (lv' := [(3, .int r8), (2, .int (nI pz)), (1, .int (nI k)), (0, .ref rd)]) hx hb dX4_read_49 rfl hl (by decide) rfl (fun ls hl => ?_)
          refine lv_iload_n hx hb dX4_read_50 rfl (lv_at hl 0 rfl) ?_
          refine lv_if_eq (tgt := 65) hx hb dX4_read_51 (by decide) (fun c_9 => ?_) (fun c_9 => ?_)
          · have c_9h : r8 = (0 : Int32) := c_9
            refine lv_iinc (v := (nI (k + 1))) (lv' := [(1, .int (nI (k + 1))), (3, .int r8), (2, .int (nI pz)), (0, .ref rd)]) hx hb dX4_read_65 hl (k := 2) rfl (nI_1 k) (by decide) rfl (fun ls hl => ?_)
            refine lv_goto (tgt := 19) hx hb dX4_read_68 (by decide) ?_
            have hz8 := (nI_inj (b := 0) (hr8.symm.trans c_9) (by have := pS_le (tx := tx) (L := L) (p := pz) (V := (n2, N2, o2, ty2, pa2, pb2, vo2, nm2)); omega) (by decide))
            have hpq := pS_q hX hz8
            have hqe := hq8 hz8
            exact ih_19 (k + 1) q8 k8 fn8 n8 N8 o8 m8 f81 f82 f83 f84 ty8 pa8 pb8 vo8 (by have := hX.1; omega) (by omega) (by omega) hC8 ((pA_go (f := 201 - (k + 1)) hzl hz8 hqe hv8).symm.trans ((show 201 - (k + 1) + 1 = 201 - k by have := hX.1; omega) ▸ hA2)) _ _ hP hD hS _ (lv_sub hl [0, 3] rfl)
          · have c_9h : ¬ r8 = (0 : Int32) := c_9
            refine lv_aload_n hx hb dX4_read_54 rfl (lv_at hl 3 rfl) ?_
            refine lv_iload_n hx hb dX4_read_55 rfl (lv_at hl 1 rfl) ?_
            refine va_put (D := D) (ci := 4) (v := .int (nI pz)) (ty := .int) (C := RX4) (T := TX4) (N := 7) hx hb hts hi4 tyX4 tyX4_ok nmX4 hown hK hP hD hS 0 rfl rfl 5 (by decide) (hts (.fieldLink RX4 26 "SelfCheckingCircuit$TextReader" "errorStart" "I") (by decide +kernel)) (fun _ h9 => h9) rfl (by decide +kernel) rfl rfl (Nat.le_of_ble_eq_true rfl) dX4_read_56 (fun H locs hP hD hS => ?_)
            have hP : va_P D vwCl [(rd, .inr (4, [.ref tb, .ref a, .ref nb, .int k8, .int (nI q8), .int (nI pz), .int (-104)])), (tb, .inr (2, [.ref tc, .int (nI L)])), (tc, .inl (g.1, 200, .inl fc)), (nb, .inl (g.2.1, 3, .inl fn8)), (a, .inr (1, [.ref t, .ref f1, .ref f2, .ref on, .int (nI n8), .int (nI N8), .int (nI o8), .long m8, .int (nI cd), .int (nI wt)])), (t, .inl (g.2.1, 30, .inl f81)), (f1, .inl (g.2.1, 30, .inl f82)), (f2, .inl (g.2.1, 30, .inl f83)), (on, .inl (g.2.1, 6, .inl f84))] H := hP
            have hD : va_D A [(rd, .inr (4, [.ref tb, .ref a, .ref nb, .int k8, .int (nI q8), .int (nI pz), .int (-104)])), (tb, .inr (2, [.ref tc, .int (nI L)])), (tc, .inl (g.1, 200, .inl fc)), (nb, .inl (g.2.1, 3, .inl fn8)), (a, .inr (1, [.ref t, .ref f1, .ref f2, .ref on, .int (nI n8), .int (nI N8), .int (nI o8), .long m8, .int (nI cd), .int (nI wt)])), (t, .inl (g.2.1, 30, .inl f81)), (f1, .inl (g.2.1, 30, .inl f82)), (f2, .inl (g.2.1, 30, .inl f83)), (on, .inl (g.2.1, 6, .inl f84))] := hD
            refine lv_aload_n hx hb dX4_read_59 rfl (lv_at hl 3 rfl) ?_
            refine lv_iload_n hx hb dX4_read_60 rfl (lv_at hl 0 rfl) ?_
            refine va_put (D := D) (ci := 4) (v := .int r8) (ty := .int) (C := RX4) (T := TX4) (N := 7) hx hb hts hi4 tyX4 tyX4_ok nmX4 hown hK hP hD hS 0 rfl rfl 6 (by decide) (hts (.fieldLink RX4 30 "SelfCheckingCircuit$TextReader" "reason" "I") (by decide +kernel)) (fun _ h9 => h9) rfl (by decide +kernel) rfl rfl (Nat.le_of_ble_eq_true rfl) dX4_read_61 (fun H locs hP hD hS => ?_)
            have hP : va_P D vwCl [(rd, .inr (4, [.ref tb, .ref a, .ref nb, .int k8, .int (nI q8), .int (nI pz), .int r8])), (tb, .inr (2, [.ref tc, .int (nI L)])), (tc, .inl (g.1, 200, .inl fc)), (nb, .inl (g.2.1, 3, .inl fn8)), (a, .inr (1, [.ref t, .ref f1, .ref f2, .ref on, .int (nI n8), .int (nI N8), .int (nI o8), .long m8, .int (nI cd), .int (nI wt)])), (t, .inl (g.2.1, 30, .inl f81)), (f1, .inl (g.2.1, 30, .inl f82)), (f2, .inl (g.2.1, 30, .inl f83)), (on, .inl (g.2.1, 6, .inl f84))] H := hP
            have hD : va_D A [(rd, .inr (4, [.ref tb, .ref a, .ref nb, .int k8, .int (nI q8), .int (nI pz), .int r8])), (tb, .inr (2, [.ref tc, .int (nI L)])), (tc, .inl (g.1, 200, .inl fc)), (nb, .inl (g.2.1, 3, .inl fn8)), (a, .inr (1, [.ref t, .ref f1, .ref f2, .ref on, .int (nI n8), .int (nI N8), .int (nI o8), .long m8, .int (nI cd), .int (nI wt)])), (t, .inl (g.2.1, 30, .inl f81)), (f1, .inl (g.2.1, 30, .inl f82)), (f2, .inl (g.2.1, 30, .inl f83)), (on, .inl (g.2.1, 6, .inl f84))] := hD
            have hz8 : ¬ (pS tx L pz (n2, N2, o2, ty2, pa2, pb2, vo2, nm2)).1 = 0 := fun q => c_9 (by rw [hr8, q]; rfl)
            have hP9 := hP.sub (ws' := [(rd, .inr (4, [.ref tb, .ref a, .ref nb, .int k8, .int (nI q8), .int (nI pz), .int r8])), (tb, .inr (2, [.ref tc, .int (nI L)])), (tc, .inl (g.1, 200, .inl fc)), (nb, .inl (g.2.1, 3, .inl fn8)), (a, .inr (1, [.ref t, .ref f1, .ref f2, .ref on, .int (nI n8), .int (nI N8), .int (nI o8), .long m8, .int (nI cd), .int (nI wt)])), (t, .inl (g.2.1, 30, .inl f81)), (f1, .inl (g.2.1, 30, .inl f82)), (f2, .inl (g.2.1, 30, .inl f83)), (on, .inl (g.2.1, 6, .inl f84))]) [0, 1, 2, 3, 4, 5, 6, 7, 8] rfl
            have hD9 := hD.sub (ws' := [(rd, .inr (4, [.ref tb, .ref a, .ref nb, .int k8, .int (nI q8), .int (nI pz), .int r8])), (tb, .inr (2, [.ref tc, .int (nI L)])), (tc, .inl (g.1, 200, .inl fc)), (nb, .inl (g.2.1, 3, .inl fn8)), (a, .inr (1, [.ref t, .ref f1, .ref f2, .ref on, .int (nI n8), .int (nI N8), .int (nI o8), .long m8, .int (nI cd), .int (nI wt)])), (t, .inl (g.2.1, 30, .inl f81)), (f1, .inl (g.2.1, 30, .inl f82)), (f2, .inl (g.2.1, 30, .inl f83)), (on, .inl (g.2.1, 6, .inl f84))]) [0, 1, 2, 3, 4, 5, 6, 7, 8] (by decide) rfl
            exact W.vret hx hb hr (fun tt ht hW => ⟨⟨(k8, (nI q8), fn8, n8, N8, o8, m8, f81, f82, f83, f84, (nI pz), r8), rfl, by rw [hr8]; exact rd_f (by have := hX.1; omega) hC8 ((pA_stop (f := 200 - k) hzl hz8).symm.trans ((show 200 - k + 1 = 201 - k by have := hX.1; omega) ▸ hA2)), by rw [ht]; exact hP9, hD9⟩, hS.F ht⟩) hS.2.2 dX4_read_64
  exact loop19 _ 0 0 kc fn n N o nm ft fa fb fo ty pa pb vo (Nat.lt_succ_self _) (Nat.le_refl _) (Nat.zero_le _) hV rfl _ _ hP hD hS _ (lv_sub hl [0, 1] rfl)
set_option maxHeartbeats 4000000 in
set_option maxRecDepth 100000 in
theorem c5_firstError (l : Launch) (D : va_G) (g : hk_G) (ti : Nat) (sz : Nat) (x : Nat) (y2 : Value) (y3 : Value) (y4 : Value) (rd : Nat) (tb : Nat) (tc : Nat) (fc : Nat → Int32) (tx : Nat → Nat) (L : Nat) (nb : Nat) (fn : Nat → Int32) (kc : Int32) (es : Int32) (rs : Int32) (a : Nat) (t : Nat) (f1 : Nat) (f2 : Nat) (on : Nat) (ft : Nat → Int32) (fa : Nat → Int32) (fb : Nat → Int32) (fo : Nat → Int32) (n : Nat) (N : Nat) (o : Nat) (nm : Int64) (cd : Nat) (wt : Nat) (ty : Nat → Nat) (pa : Nat → Nat) (pb : Nat → Nat) (vo : Nat → Nat) (po : Int32) (hX : TX tx L fc) (hcn : ∀ j, narrow .char (.int (fc j)) = .int (fc j)) (hV : CR n N o ty pa pb vo nm ft fa fb fo) : Met l yX5_firstError wsX5_firstError ({ frames := 5, cells := 0, slots := 0, locals := 113 }) (va_Pc [.ref x] (hk_In D g ti [(x, .inr (5, [.ref tb, .ref rd, y2, y3, y4])), (rd, .inr (4, [.ref tb, .ref a, .ref nb, .int kc, .int po, .int es, .int rs])), (tb, .inr (2, [.ref tc, .int (nI L)])), (tc, .inl (g.1, 200, .inl fc)), (nb, .inl (g.2.1, 3, .inl fn)), (a, .inr (1, [.ref t, .ref f1, .ref f2, .ref on, .int (nI n), .int (nI N), .int (nI o), .long nm, .int (nI cd), .int (nI wt)])), (t, .inl (g.2.1, 30, .inl ft)), (f1, .inl (g.2.1, 30, .inl fa)), (f2, .inl (g.2.1, 30, .inl fb)), (on, .inl (g.2.1, 6, .inl fo))] sz)) (va_Qi (S := Int32 × Int32 × (Nat → Int32) × Nat × Nat × Nat × Int64 × (Nat → Int32) × (Nat → Int32) × (Nat → Int32) × (Nat → Int32) × Int32 × Int32) (fun r u => r = (pA tx L 201 0 (n, N, o, ty, pa, pb, vo, nm)).1 ∧ (∃ V, CRV V u.2.2.2.1 u.2.2.2.2.1 u.2.2.2.2.2.1 u.2.2.2.2.2.2.1 u.2.2.2.2.2.2.2.1 u.2.2.2.2.2.2.2.2.1 u.2.2.2.2.2.2.2.2.2.1 u.2.2.2.2.2.2.2.2.2.2.1)) (fun u => hk_Out D (va_A [(x, .inr (5, [.ref tb, .ref rd, y2, y3, y4])), (rd, .inr (4, [.ref tb, .ref a, .ref nb, .int kc, .int po, .int es, .int rs])), (tb, .inr (2, [.ref tc, .int (nI L)])), (tc, .inl (g.1, 200, .inl fc)), (nb, .inl (g.2.1, 3, .inl fn)), (a, .inr (1, [.ref t, .ref f1, .ref f2, .ref on, .int (nI n), .int (nI N), .int (nI o), .long nm, .int (nI cd), .int (nI wt)])), (t, .inl (g.2.1, 30, .inl ft)), (f1, .inl (g.2.1, 30, .inl fa)), (f2, .inl (g.2.1, 30, .inl fb)), (on, .inl (g.2.1, 6, .inl fo))] sz) (match u with | (k', po', n0', n', N', o', m', f1', f2', f3', f4', es', rs') => [(x, .inr (5, [.ref tb, .ref rd, y2, y3, y4])), (rd, .inr (4, [.ref tb, .ref a, .ref nb, .int k', .int po', .int es', .int rs'])), (tb, .inr (2, [.ref tc, .int (nI L)])), (tc, .inl (g.1, 200, .inl fc)), (nb, .inl (g.2.1, 3, .inl n0')), (a, .inr (1, [.ref t, .ref f1, .ref f2, .ref on, .int (nI n'), .int (nI N'), .int (nI o'), .long m', .int (nI cd), .int (nI wt)])), (t, .inl (g.2.1, 30, .inl f1')), (f1, .inl (g.2.1, 30, .inl f2')), (f2, .inl (g.2.1, 30, .inl f3')), (on, .inl (g.2.1, 6, .inl f4'))])) (va_A [(x, .inr (5, [.ref tb, .ref rd, y2, y3, y4])), (rd, .inr (4, [.ref tb, .ref a, .ref nb, .int kc, .int po, .int es, .int rs])), (tb, .inr (2, [.ref tc, .int (nI L)])), (tc, .inl (g.1, 200, .inl fc)), (nb, .inl (g.2.1, 3, .inl fn)), (a, .inr (1, [.ref t, .ref f1, .ref f2, .ref on, .int (nI n), .int (nI N), .int (nI o), .long nm, .int (nI cd), .int (nI wt)])), (t, .inl (g.2.1, 30, .inl ft)), (f1, .inl (g.2.1, 30, .inl fa)), (f2, .inl (g.2.1, 30, .inl fb)), (on, .inl (g.2.1, 6, .inl fo))] sz)) 0 0 (va_A [(x, .inr (5, [.ref tb, .ref rd, y2, y3, y4])), (rd, .inr (4, [.ref tb, .ref a, .ref nb, .int kc, .int po, .int es, .int rs])), (tb, .inr (2, [.ref tc, .int (nI L)])), (tc, .inl (g.1, 200, .inl fc)), (nb, .inl (g.2.1, 3, .inl fn)), (a, .inr (1, [.ref t, .ref f1, .ref f2, .ref on, .int (nI n), .int (nI N), .int (nI o), .long nm, .int (nI cd), .int (nI wt)])), (t, .inl (g.2.1, 30, .inl ft)), (f1, .inl (g.2.1, 30, .inl fa)), (f2, .inl (g.2.1, 30, .inl fb)), (on, .inl (g.2.1, 6, .inl fo))] sz) := by
  refine Met.ofW (cc := cX5_firstError) (maxL := 1) (ret := (some .int)) (by decide) rfl ?_
  intro p e s m args below meth c s₁ Bd hml hv
  obtain ⟨rfl, hsz, hP, hD0, hE⟩ := hv
  have hx := Bd.exec
  have hb := Bd.bytes
  have hr := Bd.returns
  have hts := atoms_spec (ws := wsX5_firstError) Bd.pre
  have hown : s.vm.findClass RX5 = some m.cls := findClass_of_methodNamed Bd.named
  have hlocks := Bd.notSynchronized
  have hK := hE.1
  have hi4 : ∀ w ∈ wsX40, w ∈ wsX5_firstError := fun w h => List.mem_cons_of_mem _ (List.mem_append_left _ (List.mem_append_left _ (List.mem_append_right _ h)))
  have hi5 : ∀ w ∈ wsX50, w ∈ wsX5_firstError := fun w h => List.mem_cons_of_mem _ (List.mem_append_left _ (List.mem_append_left _ (List.mem_append_left _ (List.mem_append_right _ h))))
  subst hsz
  have hD := hD0.self (sz := s.heap.size)
  generalize hAe : va_A [(x, .inr (5, [.ref tb, .ref rd, y2, y3, y4])), (rd, .inr (4, [.ref tb, .ref a, .ref nb, .int kc, .int po, .int es, .int rs])), (tb, .inr (2, [.ref tc, .int (nI L)])), (tc, .inl (g.1, 200, .inl fc)), (nb, .inl (g.2.1, 3, .inl fn)), (a, .inr (1, [.ref t, .ref f1, .ref f2, .ref on, .int (nI n), .int (nI N), .int (nI o), .long nm, .int (nI cd), .int (nI wt)])), (t, .inl (g.2.1, 30, .inl ft)), (f1, .inl (g.2.1, 30, .inl fa)), (f2, .inl (g.2.1, 30, .inl fb)), (on, .inl (g.2.1, 6, .inl fo))] s.heap.size = A at hD hE ⊢
  have hA : ∀ q : Nat, s.heap.size ≤ q → A q := fun q h => by rw [← hAe]; exact Or.inr h
  have hS : va_S A s.heap s.heap [] := va_S.rf
  have hl := lv_entry ([.ref x]) (n := 1) (Nat.le_of_ble_eq_true rfl)
  rw [lg_entry_eq]
  generalize (lg_sl ([.ref x]) ++ List.replicate (1 - (lg_sl ([.ref x])).length) Slot.unset).toArray = ls at hl ⊢
  have hl : lv_has ls 1 [(0, .ref x)] := hl
  refine lv_aload_n hx hb dX5_firstError_0 rfl (lv_at hl 0 rfl) ?_
  refine va_get (D := D) (ci := 5) (v := .ref rd) (C := RX5) (T := TX5) (N := 5) hx hb hts hi5 hown hK hP 0 rfl rfl 1 (by decide) (hts (.fieldLink RX5 21 "SelfCheckingCircuit" "reader" "LSelfCheckingCircuit$TextReader;") (by decide +kernel)) (fun _ h9 => h9) rfl dX5_firstError_1 ?_
  refine hk_cmv (wr := [(x, .inr (5, [.ref tb, .ref rd, y2, y3, y4]))]) (va_runVN (As := []) (rest := []) ⟨hx, hb, hml, hown, hts⟩ (c4_read l D g ti _ rd tb tc fc tx L nb fn kc es rs a t f1 f2 on ft fa fb fo n N o nm cd wt ty pa pb vo po hX hcn hV) ⟨va_cnB 0 hts gX5_firstError_X4_read_n73 rfl rfl rfl (nm_X5_73 hE.2.1) (hts (.initialized RX4) (by decide +kernel)) (by decide +kernel) ⟨Nat.le_of_ble_eq_true rfl, Nat.le_of_ble_eq_true rfl⟩, hts (.instanceMethod yX4_read) (by decide +kernel), hts (.selects RX4 yX4_read yX4_read) (by decide +kernel)⟩ (hk_inV hE hP hD hS hA 4 rfl rfl [1, 2, 3, 4, 5, 6, 7, 8, 9] (by decide) rfl rfl) rfl rfl hl.1 rfl (lv_room (Nat.le_of_ble_eq_true rfl)) dX5_firstError_4 ⟨Nat.zero_le _, Nat.zero_le _⟩) hP hD hS hA [1, 2, 3, 4, 5, 6, 7, 8, 9] [0] rfl rfl (by decide) (by decide) (fun u7 H locs hrd hP hD hS => ?_)
  obtain ⟨k7, po7, fn7, n7, N7, o7, m7, f71, f72, f73, f74, es7, rs7⟩ := u7
  try dsimp only at hrd
  have hP : va_P D vwCl [(x, .inr (5, [.ref tb, .ref rd, y2, y3, y4])), (rd, .inr (4, [.ref tb, .ref a, .ref nb, .int k7, .int po7, .int es7, .int rs7])), (tb, .inr (2, [.ref tc, .int (nI L)])), (tc, .inl (g.1, 200, .inl fc)), (nb, .inl (g.2.1, 3, .inl fn7)), (a, .inr (1, [.ref t, .ref f1, .ref f2, .ref on, .int (nI n7), .int (nI N7), .int (nI o7), .long m7, .int (nI cd), .int (nI wt)])), (t, .inl (g.2.1, 30, .inl f71)), (f1, .inl (g.2.1, 30, .inl f72)), (f2, .inl (g.2.1, 30, .inl f73)), (on, .inl (g.2.1, 6, .inl f74))] H := hP
  have hD : va_D A [(x, .inr (5, [.ref tb, .ref rd, y2, y3, y4])), (rd, .inr (4, [.ref tb, .ref a, .ref nb, .int k7, .int po7, .int es7, .int rs7])), (tb, .inr (2, [.ref tc, .int (nI L)])), (tc, .inl (g.1, 200, .inl fc)), (nb, .inl (g.2.1, 3, .inl fn7)), (a, .inr (1, [.ref t, .ref f1, .ref f2, .ref on, .int (nI n7), .int (nI N7), .int (nI o7), .long m7, .int (nI cd), .int (nI wt)])), (t, .inl (g.2.1, 30, .inl f71)), (f1, .inl (g.2.1, 30, .inl f72)), (f2, .inl (g.2.1, 30, .inl f73)), (on, .inl (g.2.1, 6, .inl f74))] := hD
  refine lv_aload_n hx hb dX5_firstError_7 rfl (lv_at hl 0 rfl) ?_
  refine va_get (D := D) (ci := 5) (v := .ref rd) (C := RX5) (T := TX5) (N := 5) hx hb hts hi5 hown hK hP 0 rfl rfl 1 (by decide) (hts (.fieldLink RX5 21 "SelfCheckingCircuit" "reader" "LSelfCheckingCircuit$TextReader;") (by decide +kernel)) (fun _ h9 => h9) rfl dX5_firstError_8 ?_
  refine va_getN (D := D) (ci := 4) (v := .int es7) (C := RX4) (T := TX4) (N := 7) hx hb hts hi4 hown hK hP 1 rfl rfl 5 (by decide) (nf_X5_76 hE.2.1) (fun _ h9 => h9) rfl dX5_firstError_11 ?_
  have hP9 := hP.sub (ws' := [(x, .inr (5, [.ref tb, .ref rd, y2, y3, y4])), (rd, .inr (4, [.ref tb, .ref a, .ref nb, .int k7, .int po7, .int es7, .int rs7])), (tb, .inr (2, [.ref tc, .int (nI L)])), (tc, .inl (g.1, 200, .inl fc)), (nb, .inl (g.2.1, 3, .inl fn7)), (a, .inr (1, [.ref t, .ref f1, .ref f2, .ref on, .int (nI n7), .int (nI N7), .int (nI o7), .long m7, .int (nI cd), .int (nI wt)])), (t, .inl (g.2.1, 30, .inl f71)), (f1, .inl (g.2.1, 30, .inl f72)), (f2, .inl (g.2.1, 30, .inl f73)), (on, .inl (g.2.1, 6, .inl f74))]) [0, 1, 2, 3, 4, 5, 6, 7, 8, 9] rfl
  have hD9 := hD.sub (ws' := [(x, .inr (5, [.ref tb, .ref rd, y2, y3, y4])), (rd, .inr (4, [.ref tb, .ref a, .ref nb, .int k7, .int po7, .int es7, .int rs7])), (tb, .inr (2, [.ref tc, .int (nI L)])), (tc, .inl (g.1, 200, .inl fc)), (nb, .inl (g.2.1, 3, .inl fn7)), (a, .inr (1, [.ref t, .ref f1, .ref f2, .ref on, .int (nI n7), .int (nI N7), .int (nI o7), .long m7, .int (nI cd), .int (nI wt)])), (t, .inl (g.2.1, 30, .inl f71)), (f1, .inl (g.2.1, 30, .inl f72)), (f2, .inl (g.2.1, 30, .inl f73)), (on, .inl (g.2.1, 6, .inl f74))]) [0, 1, 2, 3, 4, 5, 6, 7, 8, 9] (by decide) rfl
  exact W.iret (v := es7) hx hb hr (fun tt ht hW => ⟨⟨_, (k7, po7, fn7, n7, N7, o7, m7, f71, f72, f73, f74, es7, rs7), rfl, ⟨hrd.1, hrd.2.2.1⟩, by rw [ht]; exact hP9, hD9⟩, hS.F ht⟩) hS.2.2 dX5_firstError_14
set_option maxHeartbeats 4000000 in
set_option maxRecDepth 100000 in
theorem c5_errorReason (l : Launch) (D : va_G) (g : hk_G) (ti : Nat) (sz : Nat) (x : Nat) (y2 : Value) (y3 : Value) (y4 : Value) (rd : Nat) (tb : Nat) (tc : Nat) (fc : Nat → Int32) (tx : Nat → Nat) (L : Nat) (nb : Nat) (fn : Nat → Int32) (kc : Int32) (es : Int32) (rs : Int32) (a : Nat) (t : Nat) (f1 : Nat) (f2 : Nat) (on : Nat) (ft : Nat → Int32) (fa : Nat → Int32) (fb : Nat → Int32) (fo : Nat → Int32) (n : Nat) (N : Nat) (o : Nat) (nm : Int64) (cd : Nat) (wt : Nat) (ty : Nat → Nat) (pa : Nat → Nat) (pb : Nat → Nat) (vo : Nat → Nat) (po : Int32) (hX : TX tx L fc) (hcn : ∀ j, narrow .char (.int (fc j)) = .int (fc j)) (hV : CR n N o ty pa pb vo nm ft fa fb fo) : Met l yX5_errorReason wsX5_errorReason ({ frames := 5, cells := 0, slots := 0, locals := 113 }) (va_Pc [.ref x] (hk_In D g ti [(x, .inr (5, [.ref tb, .ref rd, y2, y3, y4])), (rd, .inr (4, [.ref tb, .ref a, .ref nb, .int kc, .int po, .int es, .int rs])), (tb, .inr (2, [.ref tc, .int (nI L)])), (tc, .inl (g.1, 200, .inl fc)), (nb, .inl (g.2.1, 3, .inl fn)), (a, .inr (1, [.ref t, .ref f1, .ref f2, .ref on, .int (nI n), .int (nI N), .int (nI o), .long nm, .int (nI cd), .int (nI wt)])), (t, .inl (g.2.1, 30, .inl ft)), (f1, .inl (g.2.1, 30, .inl fa)), (f2, .inl (g.2.1, 30, .inl fb)), (on, .inl (g.2.1, 6, .inl fo))] sz)) (va_Qi (S := Int32 × Int32 × (Nat → Int32) × Nat × Nat × Nat × Int64 × (Nat → Int32) × (Nat → Int32) × (Nat → Int32) × (Nat → Int32) × Int32 × Int32) (fun r u => r = (pA tx L 201 0 (n, N, o, ty, pa, pb, vo, nm)).2.1 ∧ (∃ V, CRV V u.2.2.2.1 u.2.2.2.2.1 u.2.2.2.2.2.1 u.2.2.2.2.2.2.1 u.2.2.2.2.2.2.2.1 u.2.2.2.2.2.2.2.2.1 u.2.2.2.2.2.2.2.2.2.1 u.2.2.2.2.2.2.2.2.2.2.1)) (fun u => hk_Out D (va_A [(x, .inr (5, [.ref tb, .ref rd, y2, y3, y4])), (rd, .inr (4, [.ref tb, .ref a, .ref nb, .int kc, .int po, .int es, .int rs])), (tb, .inr (2, [.ref tc, .int (nI L)])), (tc, .inl (g.1, 200, .inl fc)), (nb, .inl (g.2.1, 3, .inl fn)), (a, .inr (1, [.ref t, .ref f1, .ref f2, .ref on, .int (nI n), .int (nI N), .int (nI o), .long nm, .int (nI cd), .int (nI wt)])), (t, .inl (g.2.1, 30, .inl ft)), (f1, .inl (g.2.1, 30, .inl fa)), (f2, .inl (g.2.1, 30, .inl fb)), (on, .inl (g.2.1, 6, .inl fo))] sz) (match u with | (k', po', n0', n', N', o', m', f1', f2', f3', f4', es', rs') => [(x, .inr (5, [.ref tb, .ref rd, y2, y3, y4])), (rd, .inr (4, [.ref tb, .ref a, .ref nb, .int k', .int po', .int es', .int rs'])), (tb, .inr (2, [.ref tc, .int (nI L)])), (tc, .inl (g.1, 200, .inl fc)), (nb, .inl (g.2.1, 3, .inl n0')), (a, .inr (1, [.ref t, .ref f1, .ref f2, .ref on, .int (nI n'), .int (nI N'), .int (nI o'), .long m', .int (nI cd), .int (nI wt)])), (t, .inl (g.2.1, 30, .inl f1')), (f1, .inl (g.2.1, 30, .inl f2')), (f2, .inl (g.2.1, 30, .inl f3')), (on, .inl (g.2.1, 6, .inl f4'))])) (va_A [(x, .inr (5, [.ref tb, .ref rd, y2, y3, y4])), (rd, .inr (4, [.ref tb, .ref a, .ref nb, .int kc, .int po, .int es, .int rs])), (tb, .inr (2, [.ref tc, .int (nI L)])), (tc, .inl (g.1, 200, .inl fc)), (nb, .inl (g.2.1, 3, .inl fn)), (a, .inr (1, [.ref t, .ref f1, .ref f2, .ref on, .int (nI n), .int (nI N), .int (nI o), .long nm, .int (nI cd), .int (nI wt)])), (t, .inl (g.2.1, 30, .inl ft)), (f1, .inl (g.2.1, 30, .inl fa)), (f2, .inl (g.2.1, 30, .inl fb)), (on, .inl (g.2.1, 6, .inl fo))] sz)) 0 0 (va_A [(x, .inr (5, [.ref tb, .ref rd, y2, y3, y4])), (rd, .inr (4, [.ref tb, .ref a, .ref nb, .int kc, .int po, .int es, .int rs])), (tb, .inr (2, [.ref tc, .int (nI L)])), (tc, .inl (g.1, 200, .inl fc)), (nb, .inl (g.2.1, 3, .inl fn)), (a, .inr (1, [.ref t, .ref f1, .ref f2, .ref on, .int (nI n), .int (nI N), .int (nI o), .long nm, .int (nI cd), .int (nI wt)])), (t, .inl (g.2.1, 30, .inl ft)), (f1, .inl (g.2.1, 30, .inl fa)), (f2, .inl (g.2.1, 30, .inl fb)), (on, .inl (g.2.1, 6, .inl fo))] sz) := by
  refine Met.ofW (cc := cX5_errorReason) (maxL := 1) (ret := (some .int)) (by decide) rfl ?_
  intro p e s m args below meth c s₁ Bd hml hv
  obtain ⟨rfl, hsz, hP, hD0, hE⟩ := hv
  have hx := Bd.exec
  have hb := Bd.bytes
  have hr := Bd.returns
  have hts := atoms_spec (ws := wsX5_errorReason) Bd.pre
  have hown : s.vm.findClass RX5 = some m.cls := findClass_of_methodNamed Bd.named
  have hlocks := Bd.notSynchronized
  have hK := hE.1
  have hi4 : ∀ w ∈ wsX40, w ∈ wsX5_errorReason := fun w h => List.mem_cons_of_mem _ (List.mem_append_left _ (List.mem_append_left _ (List.mem_append_right _ h)))
  have hi5 : ∀ w ∈ wsX50, w ∈ wsX5_errorReason := fun w h => List.mem_cons_of_mem _ (List.mem_append_left _ (List.mem_append_left _ (List.mem_append_left _ (List.mem_append_right _ h))))
  subst hsz
  have hD := hD0.self (sz := s.heap.size)
  generalize hAe : va_A [(x, .inr (5, [.ref tb, .ref rd, y2, y3, y4])), (rd, .inr (4, [.ref tb, .ref a, .ref nb, .int kc, .int po, .int es, .int rs])), (tb, .inr (2, [.ref tc, .int (nI L)])), (tc, .inl (g.1, 200, .inl fc)), (nb, .inl (g.2.1, 3, .inl fn)), (a, .inr (1, [.ref t, .ref f1, .ref f2, .ref on, .int (nI n), .int (nI N), .int (nI o), .long nm, .int (nI cd), .int (nI wt)])), (t, .inl (g.2.1, 30, .inl ft)), (f1, .inl (g.2.1, 30, .inl fa)), (f2, .inl (g.2.1, 30, .inl fb)), (on, .inl (g.2.1, 6, .inl fo))] s.heap.size = A at hD hE ⊢
  have hA : ∀ q : Nat, s.heap.size ≤ q → A q := fun q h => by rw [← hAe]; exact Or.inr h
  have hS : va_S A s.heap s.heap [] := va_S.rf
  have hl := lv_entry ([.ref x]) (n := 1) (Nat.le_of_ble_eq_true rfl)
  rw [lg_entry_eq]
  generalize (lg_sl ([.ref x]) ++ List.replicate (1 - (lg_sl ([.ref x])).length) Slot.unset).toArray = ls at hl ⊢
  have hl : lv_has ls 1 [(0, .ref x)] := hl
  refine lv_aload_n hx hb dX5_errorReason_0 rfl (lv_at hl 0 rfl) ?_
  refine va_get (D := D) (ci := 5) (v := .ref rd) (C := RX5) (T := TX5) (N := 5) hx hb hts hi5 hown hK hP 0 rfl rfl 1 (by decide) (hts (.fieldLink RX5 21 "SelfCheckingCircuit" "reader" "LSelfCheckingCircuit$TextReader;") (by decide +kernel)) (fun _ h9 => h9) rfl dX5_errorReason_1 ?_
  refine hk_cmv (wr := [(x, .inr (5, [.ref tb, .ref rd, y2, y3, y4]))]) (va_runVN (As := []) (rest := []) ⟨hx, hb, hml, hown, hts⟩ (c4_read l D g ti _ rd tb tc fc tx L nb fn kc es rs a t f1 f2 on ft fa fb fo n N o nm cd wt ty pa pb vo po hX hcn hV) ⟨va_cnB 0 hts gX5_errorReason_X4_read_n73 rfl rfl rfl (nm_X5_73 hE.2.1) (hts (.initialized RX4) (by decide +kernel)) (by decide +kernel) ⟨Nat.le_of_ble_eq_true rfl, Nat.le_of_ble_eq_true rfl⟩, hts (.instanceMethod yX4_read) (by decide +kernel), hts (.selects RX4 yX4_read yX4_read) (by decide +kernel)⟩ (hk_inV hE hP hD hS hA 4 rfl rfl [1, 2, 3, 4, 5, 6, 7, 8, 9] (by decide) rfl rfl) rfl rfl hl.1 rfl (lv_room (Nat.le_of_ble_eq_true rfl)) dX5_errorReason_4 ⟨Nat.zero_le _, Nat.zero_le _⟩) hP hD hS hA [1, 2, 3, 4, 5, 6, 7, 8, 9] [0] rfl rfl (by decide) (by decide) (fun u7 H locs hrd hP hD hS => ?_)
  obtain ⟨k7, po7, fn7, n7, N7, o7, m7, f71, f72, f73, f74, es7, rs7⟩ := u7
  try dsimp only at hrd
  have hP : va_P D vwCl [(x, .inr (5, [.ref tb, .ref rd, y2, y3, y4])), (rd, .inr (4, [.ref tb, .ref a, .ref nb, .int k7, .int po7, .int es7, .int rs7])), (tb, .inr (2, [.ref tc, .int (nI L)])), (tc, .inl (g.1, 200, .inl fc)), (nb, .inl (g.2.1, 3, .inl fn7)), (a, .inr (1, [.ref t, .ref f1, .ref f2, .ref on, .int (nI n7), .int (nI N7), .int (nI o7), .long m7, .int (nI cd), .int (nI wt)])), (t, .inl (g.2.1, 30, .inl f71)), (f1, .inl (g.2.1, 30, .inl f72)), (f2, .inl (g.2.1, 30, .inl f73)), (on, .inl (g.2.1, 6, .inl f74))] H := hP
  have hD : va_D A [(x, .inr (5, [.ref tb, .ref rd, y2, y3, y4])), (rd, .inr (4, [.ref tb, .ref a, .ref nb, .int k7, .int po7, .int es7, .int rs7])), (tb, .inr (2, [.ref tc, .int (nI L)])), (tc, .inl (g.1, 200, .inl fc)), (nb, .inl (g.2.1, 3, .inl fn7)), (a, .inr (1, [.ref t, .ref f1, .ref f2, .ref on, .int (nI n7), .int (nI N7), .int (nI o7), .long m7, .int (nI cd), .int (nI wt)])), (t, .inl (g.2.1, 30, .inl f71)), (f1, .inl (g.2.1, 30, .inl f72)), (f2, .inl (g.2.1, 30, .inl f73)), (on, .inl (g.2.1, 6, .inl f74))] := hD
  refine lv_aload_n hx hb dX5_errorReason_7 rfl (lv_at hl 0 rfl) ?_
  refine va_get (D := D) (ci := 5) (v := .ref rd) (C := RX5) (T := TX5) (N := 5) hx hb hts hi5 hown hK hP 0 rfl rfl 1 (by decide) (hts (.fieldLink RX5 21 "SelfCheckingCircuit" "reader" "LSelfCheckingCircuit$TextReader;") (by decide +kernel)) (fun _ h9 => h9) rfl dX5_errorReason_8 ?_
  refine va_getN (D := D) (ci := 4) (v := .int rs7) (C := RX4) (T := TX4) (N := 7) hx hb hts hi4 hown hK hP 1 rfl rfl 6 (by decide) (nf_X5_79 hE.2.1) (fun _ h9 => h9) rfl dX5_errorReason_11 ?_
  have hP9 := hP.sub (ws' := [(x, .inr (5, [.ref tb, .ref rd, y2, y3, y4])), (rd, .inr (4, [.ref tb, .ref a, .ref nb, .int k7, .int po7, .int es7, .int rs7])), (tb, .inr (2, [.ref tc, .int (nI L)])), (tc, .inl (g.1, 200, .inl fc)), (nb, .inl (g.2.1, 3, .inl fn7)), (a, .inr (1, [.ref t, .ref f1, .ref f2, .ref on, .int (nI n7), .int (nI N7), .int (nI o7), .long m7, .int (nI cd), .int (nI wt)])), (t, .inl (g.2.1, 30, .inl f71)), (f1, .inl (g.2.1, 30, .inl f72)), (f2, .inl (g.2.1, 30, .inl f73)), (on, .inl (g.2.1, 6, .inl f74))]) [0, 1, 2, 3, 4, 5, 6, 7, 8, 9] rfl
  have hD9 := hD.sub (ws' := [(x, .inr (5, [.ref tb, .ref rd, y2, y3, y4])), (rd, .inr (4, [.ref tb, .ref a, .ref nb, .int k7, .int po7, .int es7, .int rs7])), (tb, .inr (2, [.ref tc, .int (nI L)])), (tc, .inl (g.1, 200, .inl fc)), (nb, .inl (g.2.1, 3, .inl fn7)), (a, .inr (1, [.ref t, .ref f1, .ref f2, .ref on, .int (nI n7), .int (nI N7), .int (nI o7), .long m7, .int (nI cd), .int (nI wt)])), (t, .inl (g.2.1, 30, .inl f71)), (f1, .inl (g.2.1, 30, .inl f72)), (f2, .inl (g.2.1, 30, .inl f73)), (on, .inl (g.2.1, 6, .inl f74))]) [0, 1, 2, 3, 4, 5, 6, 7, 8, 9] (by decide) rfl
  exact W.iret (v := rs7) hx hb hr (fun tt ht hW => ⟨⟨_, (k7, po7, fn7, n7, N7, o7, m7, f71, f72, f73, f74, es7, rs7), rfl, ⟨hrd.2.1, hrd.2.2.1⟩, by rw [ht]; exact hP9, hD9⟩, hS.F ht⟩) hS.2.2 dX5_errorReason_14
