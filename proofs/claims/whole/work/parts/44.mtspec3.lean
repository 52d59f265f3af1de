theorem pS_ok {tx : Nat → Nat} {L p : Nat} {V : VT} (h : (pS tx L p V).1 = 0) : (∃ k t a b, ¬ p = 0 ∧ (tG k t a b V).1 = 0 ∧ (pS tx L p V).2.2 = (tG k t a b V).2) ∨ (∃ v, p = 0 ∧ (tI v V).1 = 0 ∧ (pS tx L p V).2.2 = (tI v V).2) ∨ (∃ v, ¬ p = 0 ∧ (tO v V).1 = 0 ∧ (pS tx L p V).2.2 = (tO v V).2) ∨ (∃ v, ¬ p = 0 ∧ (tW v V).1 = 0 ∧ (pS tx L p V).2.2 = (tW v V).2) := by
  have hp : mb (ca tx L p) p = true → (p = 0 ↔ ca tx L p = 105) := by
    unfold mb mb0
    intro z
    by_cases q : p = 0
    · rw [if_pos q, decide_eq_true_eq] at z; exact ⟨fun _ => z, fun _ => q⟩
    · rw [if_neg q] at z
      refine ⟨fun w => absurd w q, fun w => ?_⟩
      rw [w] at z; exact absurd z (by decide)
  unfold pS at h ⊢
  by_cases q1 : mb (ca tx L p) p = true
  · have hp1 := hp q1
    rw [if_pos q1] at h ⊢
    by_cases q2 : ca tx L p = 103
    · rw [if_pos q2] at h ⊢
      by_cases q3 : (ga tx L (p + 1) || gb tx L (p + 1)) = true
      · rw [if_pos q3] at h ⊢
        exact Or.inl ⟨_, _, _, _, fun z => absurd (q2.symm.trans (hp1.mp z)) (by decide), h, rfl⟩
      · rw [if_neg q3] at h; cases h
    · rw [if_neg q2] at h ⊢
      by_cases q3 : s1 tx L (p + 1) = true
      · rw [if_pos q3] at h ⊢
        by_cases q4 : ca tx L p = 105
        · rw [if_pos q4] at h ⊢; exact Or.inr (Or.inl ⟨_, hp1.mpr q4, h, rfl⟩)
        · rw [if_neg q4] at h ⊢
          by_cases q5 : ca tx L p = 111
          · rw [if_pos q5] at h ⊢; exact Or.inr (Or.inr (Or.inl ⟨_, fun z => q4 (hp1.mp z), h, rfl⟩))
          · rw [if_neg q5] at h ⊢; exact Or.inr (Or.inr (Or.inr ⟨_, fun z => q4 (hp1.mp z), h, rfl⟩))
      · rw [if_neg q3] at h; cases h
  · rw [if_neg q1] at h; cases h
theorem tI_ok {v : Nat} {V : VT} (h : (tI v V).1 = 0) : (1 ≤ v ∧ v ≤ 6) ∧ (tI v V).2 = (v, v, 0, zf, zf, zf, zf, 0) := by
  unfold tI at h ⊢
  by_cases q : 1 ≤ v ∧ v ≤ 6
  · rw [if_pos q]; exact ⟨q, rfl⟩
  · rw [if_neg q] at h; cases h
theorem VK_S {tx : Nat → Nat} {L p : Nat} {V : VT} (h : (pS tx L p V).1 = 0) (hV : VK V) (h1 : ¬ p = 0 → 1 ≤ V.1) : VK (pS tx L p V).2.2 ∧ 1 ≤ (pS tx L p V).2.2.1 := by
  obtain ⟨n, N, o, ty, pa, pb, vo, nm⟩ := V
  rcases pS_ok h with ⟨k, t, a, b, c1, c2, c3⟩ | ⟨v, c1, c2, c3⟩ | ⟨v, c1, c2, c3⟩ | ⟨v, c1, c2, c3⟩
  · rw [c3]
    unfold tG at c2 ⊢; dsimp only at c2 ⊢
    split at c2
    · rename_i q
      rw [if_pos q]
      split at c2
      · rename_i q2
        rw [if_pos q2]
        obtain ⟨k1, k2, k3, k4, k5⟩ := hV
        dsimp only at k1 k2 k3 k4 k5
        exact ⟨⟨k1, by dsimp only; omega, by dsimp only; omega, k4, k5⟩, h1 c1⟩
      · cases c2
    · cases c2
  · rw [c3, (tI_ok c2).2]
    have := (tI_ok c2).1
    exact ⟨⟨this.2, Nat.le_refl _, by dsimp only; omega, by dsimp only; omega, fun w _ => lb_0 w⟩, this.1⟩
  · rw [c3]
    unfold tO at c2 ⊢; dsimp only at c2 ⊢
    split at c2
    · rename_i q
      rw [if_pos q]
      split at c2
      · rename_i q2
        rw [if_pos q2]
        obtain ⟨k1, k2, k3, k4, k5⟩ := hV
        dsimp only at k1 k2 k3 k4 k5
        exact ⟨⟨k1, k2, k3, by dsimp only; omega, k5⟩, h1 c1⟩
      · cases c2
    · cases c2
  · rw [c3]
    unfold tW at c2 ⊢; dsimp only at c2 ⊢
    split at c2
    · rename_i q
      rw [if_pos q]
      obtain ⟨k1, k2, k3, k4, k5⟩ := hV
      dsimp only at k1 k2 k3 k4 k5
      refine ⟨⟨k1, k2, k3, k4, fun w hw => ?_⟩, h1 c1⟩
      dsimp only at hw ⊢
      rw [lb_or, k5 w hw, lb_bt (pw_64 k1 q), decide_eq_false (by omega)]; rfl
    · cases c2
theorem pA_0 {tx : Nat → Nat} {L : Nat} (hL : 0 < L) (V W : VT) : ∀ f, 0 < f → pA tx L f 0 V = pA tx L f 0 W
  | 0, h => absurd h (by decide)
  | f + 1, _ => by
    have e : (pS tx L 0 V).1 = (pS tx L 0 W).1 ∧ (pS tx L 0 V).2.1 = (pS tx L 0 W).2.1 ∧ ((pS tx L 0 V).1 = 0 → (pS tx L 0 V).2.2 = (pS tx L 0 W).2.2) := by
      unfold pS
      by_cases q1 : mb (ca tx L 0) 0 = true
      · have q5 : ca tx L 0 = 105 := by unfold mb at q1; rw [if_pos rfl, decide_eq_true_eq] at q1; exact q1
        have q3 : ¬ ca tx L 0 = 103 := by rw [q5]; decide
        rw [if_pos q1, if_neg q3, if_pos q1, if_neg q3]
        by_cases q4 : s1 tx L (0 + 1) = true
        · rw [if_pos q4, if_pos q5, if_pos q4, if_pos q5]
          unfold tI
          by_cases q6 : 1 ≤ cV tx L (0 + 1) ∧ cV tx L (0 + 1) ≤ 6
          · rw [if_pos q6, if_pos q6]; exact ⟨rfl, rfl, fun _ => rfl⟩
          · rw [if_neg q6, if_neg q6]; exact ⟨rfl, rfl, fun (z : (3 : Nat) = 0) => absurd z (by decide)⟩
        · rw [if_neg q4, if_neg q4]; exact ⟨rfl, rfl, fun (z : (2 : Nat) = 0) => absurd z (by decide)⟩
      · rw [if_neg q1, if_neg q1]; exact ⟨rfl, rfl, fun (z : (1 : Nat) = 0) => absurd z (by decide)⟩
    rw [pA, pA, if_pos hL, if_pos hL]
    by_cases q : (pS tx L 0 V).1 = 0
    · rw [if_pos q, if_pos (e.1.symm.trans q), e.2.1, e.2.2 q]
    · rw [if_neg q, if_neg (fun z => q (e.1.trans z)), e.1]
def RAp (R : Int32 × Int32 × VT) (L : Nat) (r rs : Int32) (fr : Nat → Int32) (w : Nat) : Prop := r = R.1 ∧ (¬ r = -104 → rs = R.2.1) ∧ (r = -104 → MRV R.2.2 fr ∧ VK R.2.2 ∧ (w = 0 ↔ nmV R.2.2 = 0) ∧ (0 < L → 1 ≤ R.2.2.1) ∧ w ≤ 200)
theorem ra_e {R : Int32 × Int32 × VT} {L p : Nat} {V : VT} {rs : Int32} {fr : Nat → Int32} {w : Nat} (hR : (-104, -104, V) = R) (h1 : MRV V fr) (h2 : VK V) (h3 : w = 0 ↔ nmV V = 0) (h4 : ¬ p = 0 → 1 ≤ V.1) (hp : L ≤ p) (hw : w ≤ 200) : RAp R L (-104) rs fr w := by
  subst hR
  exact ⟨rfl, fun q => absurd rfl q, fun _ => ⟨h1, h2, h3, fun q => h4 (by omega), hw⟩⟩
theorem ra_f {R : Int32 × Int32 × VT} {L p k : Nat} {fr : Nat → Int32} {w : Nat} (hp : p < 2 ^ 31) (hR : (nI p, nI k, Vz) = R) : RAp R L (nI p) (nI k) fr w := by
  subst hR
  exact ⟨rfl, fun _ => rfl, fun q => absurd q (nI_n104 hp)⟩
theorem MR_z {f : Nat → Int32} (h : ∀ j, j < 147 → f j = 0) : MRV Vz f :=
  ⟨⟨h 0 (by decide), h 1 (by decide), h 74 (by decide), h 81 (by decide), h 82 (by decide)⟩, fun j _ hj => absurd hj (Nat.not_lt_zero _), fun k hk => absurd hk (Nat.not_lt_zero _), fun w hw => by rw [h (83 + w) (by omega)]; show (0 : Int32) = bI (lb 0 w); rw [lb_0]; rfl⟩
theorem VK_z : VK Vz := ⟨by decide, by decide, by decide, by decide, fun w _ => lb_0 w⟩
def MRw (V : VT) (cd wt : Nat) (fs : Nat → Int32) : Prop := MR V.1 V.2.1 V.2.2.1 cd wt V.2.2.2.1 V.2.2.2.2.1 V.2.2.2.2.2.1 V.2.2.2.2.2.2.1 (nmV V) fs
theorem cf_fin {V : VT} {fr gr gs : Nat → Int32} {w cd wt : Nat} (hM : MRV V fr) (hV : VK V) (hw : w = 0 ↔ nmV V = 0) (hlo : ∀ j, j < 83 → gr j = upd (upd fr 81 (nI cd)) 82 (nI wt) j) (hhi : ∀ x, x < 64 → gr (83 + x) = if w = 0 ∧ x < 2 ^ V.1 then 1 else fr (83 + x)) (hc : ∀ j, j < 147 → gs j = gr j) : MRw (VN V) cd wt gs := by
  obtain ⟨n, N, o, ty, pa, pb, vo, nm⟩ := V
  obtain ⟨⟨h1, h2, h3, h4, h5⟩, h6, h7, h8⟩ := hM
  obtain ⟨k1, k2, k3, k4, k5⟩ := hV
  dsimp only at h1 h2 h3 h4 h5 h6 h7 h8 k1 k2 k3 k4 k5 hhi
  have hlo2 : ∀ j, j < 81 → gs j = fr j := fun j hj => by rw [hc j (by omega), hlo j (by omega), pk_un (by omega), pk_un (by omega)]
  refine ⟨⟨(hlo2 0 (by decide)).trans h1, (hlo2 1 (by decide)).trans h2, (hlo2 74 (by decide)).trans h3, ?_, ?_⟩, fun j hj hj2 => ?_, fun k hk => ?_, fun x hx => ?_⟩
  · rw [hc 81 (by decide), hlo 81 (by decide), pk_un (by decide), pk_us]
  · rw [hc 82 (by decide), hlo 82 (by decide), pk_us]
  · dsimp only [VN] at hj hj2 ⊢
    rw [hlo2 _ (by omega), hlo2 _ (by omega), hlo2 _ (by omega)]
    exact h6 j hj hj2
  · dsimp only [VN] at hk ⊢
    rw [hlo2 _ (by omega)]
    exact h7 k hk
  · rw [hc _ (by omega), hhi x hx]
    show _ = bI (lb (if nm = 0 then wm n else nm) x)
    have hw' : w = 0 ↔ nm = 0 := hw
    by_cases q : nm = 0
    · rw [if_pos q, lb_wm k1]
      by_cases q2 : x < 2 ^ n
      · rw [if_pos ⟨hw'.mpr q, q2⟩, decide_eq_true q2]; rfl
      · rw [if_neg (fun z => q2 z.2), decide_eq_false q2, h8 x hx, q, lb_0]
    · rw [if_neg q, if_neg (fun z => q (hw'.mp z.1))]
      exact h8 x hx
