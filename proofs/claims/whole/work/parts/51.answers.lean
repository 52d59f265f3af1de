/-! both sides' answers are one -/
theorem an_hi {P : Nat → Bool} {m : Nat} (h : ∀ k, m ≤ k → P k = false) (hm : m ≤ 64) : anB P 64 = anB P m := by
  rw [Bool.eq_iff_iff, anB_iff, anB_iff]
  constructor
  · rintro ⟨i, hi, q⟩
    rcases Nat.lt_or_ge i m with z | z
    · exact ⟨i, z, q⟩
    · rw [h i z] at q; cases q
  · rintro ⟨i, hi, q⟩
    exact ⟨i, by omega, q⟩
theorem an_ct {P : Nat → Bool} {m : Nat} (h : ∀ k, m ≤ k → k < 64 → P k = false) (hm : m ≤ 64) : ct P 64 = ct P m := by
  have e : m + (64 - m) = 64 := by omega
  have h1 := ct_split P m (64 - m)
  rw [e] at h1
  have h0 : ct (fun i => P (m + i)) (64 - m) = 0 := by
    apply Nat.eq_zero_of_not_pos
    intro q
    obtain ⟨i, hi, z⟩ := ct_pos.mp q
    have z2 : P (m + i) = true := z
    rw [h (m + i) (by omega) (by omega)] at z2; cases z2
  omega
theorem an_ex {n N o cd wt : Nat} {ty pa pb vo : Nat → Nat} {nm : Int64} {ft fa fb fo : Nat → Int32} (h : CR n N o ty pa pb vo nm ft fa fb fo) {f : Int32} : ∀ k, 2 ^ n ≤ k → exB n o cd wt ty pa pb vo nm f k = false := fun k hk => by
  unfold exB; rw [h.2.2.2.2 k hk]; rfl
theorem an_un {n N o cd wt : Nat} {ty pa pb vo : Nat → Nat} {nm : Int64} {ft fa fb fo : Nat → Int32} (h : CR n N o ty pa pb vo nm ft fa fb fo) {f : Int32} : ∀ k, 2 ^ n ≤ k → unB n o cd wt ty pa pb vo nm f k = false := fun k hk => by
  unfold unB; rw [h.2.2.2.2 k hk]; rfl
theorem an_F {P : Nat → Bool} {n : Nat} {r r' : Int32} (h : isF P 64 r) (h' : isF P (2 ^ n) r') (hn : n ≤ 6) (hP : ∀ k, 2 ^ n ≤ k → P k = false) : r = r' := (isF_one h' h (fun _ _ => rfl) (pw_le hn) (fun k hk _ => hP k hk)).symm
theorem an_D {n : Nat} {I : Nat → Bool} {nm : Int64} {r r' : Int32} (hn : n ≤ 6) (hz : ∀ k, 2 ^ n ≤ k → lb nm k = false) (h : ((∀ w, w < 64 → (I w && decide (w < 2 ^ n)) = lb nm w) ∧ r = 1) ∨ (¬ (∀ w, w < 64 → (I w && decide (w < 2 ^ n)) = lb nm w) ∧ r = 0)) (h' : ((∀ w, w < 2 ^ n → I w = lb nm w) ∧ r' = 1) ∨ (¬ (∀ w, w < 2 ^ n → I w = lb nm w) ∧ r' = 0)) : r = r' := by
  have e : (∀ w, w < 64 → (I w && decide (w < 2 ^ n)) = lb nm w) ↔ (∀ w, w < 2 ^ n → I w = lb nm w) := by
    constructor
    · intro q w hw
      have := q w (pw_64 hn hw)
      rw [decide_eq_true hw, Bool.and_true] at this; exact this
    · intro q w hw
      by_cases z : w < 2 ^ n
      · rw [decide_eq_true z, Bool.and_true]; exact q w z
      · rw [decide_eq_false z, Bool.and_false, hz w (by omega)]
  rw [e] at h
  rcases h with ⟨a, rfl⟩ | ⟨a, rfl⟩ <;> rcases h' with ⟨b, rfl⟩ | ⟨b, rfl⟩
  · rfl
  · exact absurd a b
  · exact absurd b a
  · rfl
theorem an_cov : ∀ u, u < 64 → ∀ k, k < 64 → cov u k = true → k ≤ u := by decide +kernel
theorem an_nO (nm : Int64) (W : Nat → Nat) (y : Nat) : ∀ i, nO nm W y i = true ↔ ∃ a, a < i ∧ lb nm a = true ∧ W a = y
  | 0 => ⟨fun h => absurd (show false = true from h) (by decide), fun ⟨a, ha, _⟩ => absurd ha (Nat.not_lt_zero a)⟩
  | i + 1 => by
    show (nO nm W y i || (lb nm i && decide (W i = y))) = true ↔ _
    rw [Bool.or_eq_true, an_nO nm W y i, Bool.and_eq_true, decide_eq_true_eq]
    constructor
    · rintro (⟨a, ha, h⟩ | h)
      · exact ⟨a, by omega, h⟩
      · exact ⟨i, by omega, h⟩
    · rintro ⟨a, ha, h⟩
      rcases Nat.lt_succ_iff_lt_or_eq.mp ha with q | q
      · exact Or.inl ⟨a, q, h⟩
      · subst q; exact Or.inr h
theorem an_U {n : Nat} {nm xs : Int64} {W : Nat → Nat} {r r' : Int32} (hn : n ≤ 6) (hz : ∀ k, 2 ^ n ≤ k → lb nm k = false) (hW : ∀ w, W w < 64) (hx : ∀ y, y < 64 → lb xs y = nO nm W y 64) (h : ((∃ u, u < 64 ∧ lb xs u = true ∧ ∃ k, k < u ∧ lb xs k = true ∧ cov u k = true) ∧ r = 0) ∨ (¬ (∃ u, u < 64 ∧ lb xs u = true ∧ ∃ k, k < u ∧ lb xs k = true ∧ cov u k = true) ∧ r = 1)) (h' : (aU nm W (2 ^ n) ∧ r' = 1) ∨ (¬ aU nm W (2 ^ n) ∧ r' = 0)) : r = r' := by
  have lt : ∀ a, lb nm a = true → a < 2 ^ n := fun a ha => Nat.not_le.mp fun q => by rw [hz a q] at ha; cases ha
  have hm : ∀ y, y < 64 → (lb xs y = true ↔ ∃ a, a < 2 ^ n ∧ lb nm a = true ∧ W a = y) := fun y hy => by
    rw [hx y hy, an_nO]
    constructor
    · rintro ⟨a, -, h1, h2⟩; exact ⟨a, lt a h1, h1, h2⟩
    · rintro ⟨a, ha, h1, h2⟩; exact ⟨a, pw_64 hn ha, h1, h2⟩
  have e : (∃ u, u < 64 ∧ lb xs u = true ∧ ∃ k, k < u ∧ lb xs k = true ∧ cov u k = true) ↔ ¬ aU nm W (2 ^ n) := by
    constructor
    · rintro ⟨u, hu, h1, k, hk, h2, h3⟩ q
      obtain ⟨a, ha, a1, a2⟩ := (hm u hu).mp h1
      obtain ⟨b, hb, b1, b2⟩ := (hm k (by omega)).mp h2
      rcases Nat.lt_trichotomy a b with z | z | z
      · rcases q b hb a z b1 a1 with w | ⟨w1, w2⟩
        · omega
        · rw [a2, b2, h3] at w1; cases w1
      · rw [z] at a2; omega
      · rcases q a ha b z a1 b1 with w | ⟨w1, w2⟩
        · omega
        · rw [a2, b2, h3] at w2; cases w2
    · intro q
      apply Classical.byContradiction
      intro ne
      apply q
      intro a ha b hb a1 b1
      by_cases ew : W a = W b
      · exact Or.inl ew
      · refine Or.inr ⟨?_, ?_⟩
        · cases hc : cov (W b) (W a)
          · rfl
          · have := an_cov _ (hW b) _ (hW a) hc
            exact absurd ⟨W b, hW b, (hm _ (hW b)).mpr ⟨b, by omega, b1, rfl⟩, W a, by omega, (hm _ (hW a)).mpr ⟨a, ha, a1, rfl⟩, hc⟩ ne
        · cases hc : cov (W a) (W b)
          · rfl
          · have := an_cov _ (hW a) _ (hW b) hc
            exact absurd ⟨W a, hW a, (hm _ (hW a)).mpr ⟨a, ha, a1, rfl⟩, W b, by omega, (hm _ (hW b)).mpr ⟨b, by omega, b1, rfl⟩, hc⟩ ne
  rw [e] at h
  rcases h with ⟨a, rfl⟩ | ⟨a, rfl⟩ <;> rcases h' with ⟨b, rfl⟩ | ⟨b, rfl⟩
  · exact absurd b a
  · rfl
  · rfl
  · exact absurd b a
theorem an_g {ef ge : Nat → Int64} {m : Nat} (hm : m ≤ 64) (he : ∀ w, w < m → ∀ y, y < 64 → lb (ef w) y = lb (ge w) y) (h0 : ∀ w, m ≤ w → w < 64 → ∀ y, y < 64 → lb (ef w) y = false) : ∀ (k : Nat) (op had : Int64) (r r' : Int32), (∀ w, w < m → ∀ y, y < 64 → lb (ef w) y = true → lb op y = !lb had y) → GR ef k op r → GM ge m k had r' → r = r' := by
  have hb : ∀ (op had : Int64), (∀ w, w < m → ∀ y, y < 64 → lb (ef w) y = true → lb op y = !lb had y) → ∀ r r' : Int32, isB (cO ef op) 64 r → isB (cH ge had) m r' → r = r' := by
    intro op had hR r r' h1 h2
    refine (isB_one h2 h1 (fun w hw => ?_) hm (fun w hw hw2 => ?_)).symm
    · unfold cO cH
      apply ct_cong
      intro y hy
      rw [lb_and, lb_and, lb_not _ hy, ← he w hw y hy]
      cases q : lb (ef w) y
      · rfl
      · rw [hR w hw y hy q]
    · unfold cO
      apply Nat.eq_zero_of_not_pos
      intro q
      obtain ⟨y, hy, z⟩ := ct_pos.mp q
      rw [lb_and, h0 w hw hw2 y hy] at z; cases z
  intro k
  induction k with
  | zero => intro op had r r' hR h1 h2; exact hb op had hR r r' h1 h2
  | succ k ih =>
    intro op had r r' hR h1 h2
    rcases h1 with ⟨w, hw, b1, g1⟩ | ⟨b1, e1⟩ <;> rcases h2 with ⟨v, hv, b2, g2⟩ | ⟨b2, e2⟩
    · have ewv := nI_inj (hb op had hR _ _ b1 b2) (by omega) (by omega)
      subst ewv
      refine ih _ _ r r' (fun x hx y hy q => ?_) g1 g2
      rw [lb_and, lb_not _ hy, lb_or, hR x hx y hy q, he w hv y hy]
      cases lb had y <;> cases lb (ge w) y <;> rfl
    · exact absurd (hb op had hR _ _ b1 b2) (nI_n104 (by omega))
    · exact absurd (hb op had hR _ _ b1 b2).symm (nI_n104 (by omega))
    · rw [e1, e2]
theorem an_G {N n ix : Nat} {E : Int32 → Nat → Bool} {r r' : Int32} (hn : n ≤ 6) (hE : ∀ f k, 2 ^ n ≤ k → E f k = false) (h : GT N E ix r) (h' : ∃ ge : Nat → Int64, (∀ v, v < 2 ^ n → ∀ y, y < 64 → lb (ge v) y = (decide (y < 2 * N) && E (nI y) v)) ∧ GM ge (2 ^ n) ix 0 r') : r = r' := by
  obtain ⟨ef, op, h1, h2, h3⟩ := h
  obtain ⟨ge, g1, g2⟩ := h'
  refine an_g (pw_le hn) (fun w hw y hy => ?_) (fun w hw hw2 y hy => ?_) ix op 0 r r' (fun w hw y hy q => ?_) h3 g2
  · rw [h1 w (pw_64 hn hw) y hy, g1 w hw y hy]
  · rw [h1 w hw2 y hy, hE _ w hw, Bool.and_false]
  · rw [h1 w (pw_64 hn hw) y hy, Bool.and_eq_true] at q
    rw [h2 y hy, q.1, (anB_iff _ 64).mpr ⟨w, pw_64 hn hw, q.2⟩, lb_0]
    rfl
theorem an_ty {n N o : Nat} {ty pa pb vo : Nat → Nat} {nm : Int64} {ft fa fb fo : Nat → Int32} (h : CR n N o ty pa pb vo nm ft fa fb fo) {j : Nat} (hj : j < N) : ft j = if j < n then 6 else nI (ty j) := by
  by_cases q : j < n
  · rw [if_pos q]; exact h.2.1 j q
  · rw [if_neg q]; exact (h.2.2.1 j (by omega) hj).1
theorem an_o0 {n N o cd wt : Nat} {ty pa pb vo : Nat → Nat} {nm : Int64} {ft fa fb fo fs : Nat → Int32} (h : CR n N o ty pa pb vo nm ft fa fb fo) (hM : MR n N o cd wt ty pa pb vo nm fs) {j : Nat} (hj : j < N) : (if (0 : Int32) < (if ft j = 6 then (0 : Int32) else if ft j = 5 then 1 else 2) then fa j else -104) = (if (if j < n then (6 : Int32) else nI (ty j)) = 6 then -104 else fs (2 + 3 * (j - n) + 1)) := by
  rw [an_ty h hj]
  by_cases q : j < n
  · rw [if_pos q, if_pos rfl, if_pos rfl, if_neg (by decide)]
  · have hg := h.2.2.1 j (by omega) hj
    have hm := hM.2.1 j (by omega) hj
    have h6 : ¬ nI (ty j) = 6 := fun z => by have := nI_inj (b := 6) z (by omega) (by decide); omega
    rw [if_neg q, if_neg h6, if_neg h6, hg.2.2.1, hm.2.2.1]
    by_cases z : nI (ty j) = 5
    · rw [if_pos z, if_pos (by decide)]
    · rw [if_neg z, if_pos (by decide)]
theorem an_o1 {n N o cd wt : Nat} {ty pa pb vo : Nat → Nat} {nm : Int64} {ft fa fb fo fs : Nat → Int32} (h : CR n N o ty pa pb vo nm ft fa fb fo) (hM : MR n N o cd wt ty pa pb vo nm fs) {j : Nat} (hj : j < N) : (if (1 : Int32) < (if ft j = 6 then (0 : Int32) else if ft j = 5 then 1 else 2) then fb j else -104) = (if (if j < n then (6 : Int32) else nI (ty j)) = 6 then -104 else if (if j < n then (6 : Int32) else nI (ty j)) = 5 then -104 else fs (2 + 3 * (j - n) + 2)) := by
  rw [an_ty h hj]
  by_cases q : j < n
  · rw [if_pos q, if_pos rfl, if_pos rfl, if_neg (by decide)]
  · have hg := h.2.2.1 j (by omega) hj
    have hm := hM.2.1 j (by omega) hj
    have h6 : ¬ nI (ty j) = 6 := fun z => by have := nI_inj (b := 6) z (by omega) (by decide); omega
    rw [if_neg q, if_neg h6, if_neg h6]
    by_cases z : nI (ty j) = 5
    · rw [if_pos z, if_neg (by decide), if_pos z]
    · have z5 : ty j ≠ 5 := fun w => z (by rw [w]; rfl)
      rw [if_neg z, if_pos (by decide), if_neg z, hg.2.2.2.2.1, (hm.2.2.2.2 z5).1]
theorem an_w1 {n w : Nat} {nm : Int64} (hn : n ≤ 6) (hw : w < 2 ^ n) (hz : ∀ k, 2 ^ n ≤ k → lb nm k = false) : ct (lb (nm ||| ((1 : Int64) <<< ((nI w).toInt64 &&& 63)))) 64 = ct (fun v => if v = w then true else lb nm v) (2 ^ n) := by
  rw [ct_cong (P' := fun v => if v = w then true else lb nm v) (fun v hv => jr_lb1 (pw_64 hn hw) hv)]
  exact an_ct (fun k hk _ => by rw [if_neg (by omega)]; exact hz k hk) (pw_le hn)
theorem an_w0 {n w : Nat} {nm : Int64} (hn : n ≤ 6) (hw : w < 2 ^ n) (hz : ∀ k, 2 ^ n ≤ k → lb nm k = false) : ct (lb (nm &&& (((1 : Int64) <<< ((nI w).toInt64 &&& 63)) ^^^ (-1 : Int64)))) 64 = ct (fun v => if v = w then false else lb nm v) (2 ^ n) := by
  rw [ct_cong (P' := fun v => if v = w then false else lb nm v) (fun v hv => jr_lb0 (pw_64 hn hw) hv)]
  exact an_ct (fun k hk _ => by rw [if_neg (by omega)]; exact hz k hk) (pw_le hn)
/-! the text -/
theorem an_ch : ∀ c, c < 128 → ((nI c).toUInt32 % 65536).toInt32 = nI c := by decide +kernel
theorem an_tx {tx : Nat → Nat} {L : Nat} {fc : Nat → Int32} {x : Int32} {c : Nat} (h : TX tx L fc) (hL : L < 200) (hc : c < 128) (hx : x = nI c) : TX (upN tx L c) (L + 1) (upd fc L x) := by
  refine ⟨by omega, fun j hj => ?_⟩
  by_cases e : j = L
  · subst e; rw [pk_us, up_s]; exact ⟨hx, hc⟩
  · rw [pk_un e, up_n e]; exact h.2 j (by omega)
theorem an_v {v : Int32} (h1 : ¬ v < 32) (h2 : v ≤ 126) : ∃ c, c < 128 ∧ v = nI c := by
  have h0 : ¬ v < 0 := fun q => h1 (by
    have a := Int32.lt_iff_toInt_lt.mp q
    apply Int32.lt_iff_toInt_lt.mpr
    have z0 : (0 : Int32).toInt = 0 := by decide
    have z1 : (32 : Int32).toInt = 32 := by decide
    omega)
  obtain ⟨j, hj, rfl⟩ := nI_of h0
  have a := Int32.le_iff_toInt_le.mp h2
  rw [nI_toInt hj] at a
  have z1 : (126 : Int32).toInt = 126 := by decide
  exact ⟨j, by omega, rfl⟩
theorem an_rm {n N o : Nat} {cd wt : Nat} {ty pa pb vo : Nat → Nat} {nm : Int64} {ft fa fb fo : Nat → Int32} (h : CR n N o ty pa pb vo nm ft fa fb fo) (hC : Cok n N o cd wt) : (∃ k, k < o ∧ fo k = nI (N - 1)) ↔ ∃ k, k < o ∧ vo k = N - 1 := by
  obtain ⟨c1, c2, c3, c4, c5, c6, c7⟩ := hC
  constructor
  · rintro ⟨k, hk, e⟩
    have h1 := h.2.2.2.1 k hk
    exact ⟨k, hk, nI_inj (h1.1.symm.trans e) (by omega) (by omega)⟩
  · rintro ⟨k, hk, e⟩
    exact ⟨k, hk, by rw [(h.2.2.2.1 k hk).1, e]⟩
