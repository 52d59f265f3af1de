theorem ic_0 {p : Prop} {i : Decidable p} (h : (if p then (0 : Int32) else 1) = 0) : p := by
  by_cases q : p
  · exact q
  · rw [if_neg q] at h; exact absurd h (by decide)
theorem ic_1 {p : Prop} {i : Decidable p} (h : ¬ (if p then (0 : Int32) else 1) = 0) : ¬ p := fun q => h (if_pos q)
theorem mr_N {n N o cd wt : Nat} {ty pa pb vo : Nat → Nat} {nm : Int64} {fs : Nat → Int32} (h : MR n N o cd wt ty pa pb vo nm fs) (hn : n ≤ N) : fs 0 + fs 1 = nI N := by
  rw [h.1.1, h.1.2.1, nI_add, Nat.add_sub_cancel' hn]
theorem mbA {c p : Nat} {bf : Int32} (hbf : bf = bI (decide (p = 0))) (hc : c = 105) : ((1 : Int32) = bf → mb c p = true ∧ p = 0) ∧ (¬ (1 : Int32) = bf → ¬ mb c p = true) := by
  subst hbf hc
  unfold mb
  by_cases q : p = 0
  · rw [if_pos q, decide_eq_true q]; exact ⟨fun _ => ⟨rfl, q⟩, fun z => absurd rfl z⟩
  · rw [if_neg q, decide_eq_false q]; exact ⟨fun z => absurd z (by decide), fun _ => by decide⟩
theorem mbB {c p : Nat} {bf : Int32} (hbf : bf = bI (decide (p = 0))) (hc : c = 103 ∨ c = 111 ∨ c = 119) : ((0 : Int32) = bf → mb c p = true) ∧ (¬ (0 : Int32) = bf → ¬ mb c p = true) := by
  subst hbf
  unfold mb
  by_cases q : p = 0
  · rw [if_pos q, decide_eq_true q]; exact ⟨fun z => absurd z (by decide), fun _ => by rcases hc with rfl | rfl | rfl <;> decide⟩
  · rw [if_neg q, decide_eq_false q]; exact ⟨fun _ => by rcases hc with rfl | rfl | rfl <;> decide, fun z => absurd rfl z⟩
theorem mbC {c p : Nat} (h1 : ¬ c = 105) (h2 : ¬ c = 103) (h3 : ¬ c = 111) (h4 : ¬ c = 119) : ¬ mb c p = true := by
  unfold mb mb0
  rw [decide_eq_false h1, decide_eq_false h2, decide_eq_false h3, decide_eq_false h4]
  split <;> decide
def SF (tx : Nat → Nat) (L p : Nat) (r rs : Int32) (q : Nat) : Prop := (rs = 0 ∧ s1 tx L p = true ∧ r = nI (cV tx L p) ∧ q = cP tx L p + 1) ∨ (rs = 2 ∧ s1 tx L p = false)
theorem sf_1 {tx : Nat → Nat} {L p p1 : Nat} {fc : Nat → Int32} {r rs1 rs2 : Int32} (hX : TX tx L fc) (h1 : NPp tx L p 0 r rs1 p1) (h2 : sg tx L p1 59 rs1 rs2) : SF tx L p r rs2 (p1 + 1) := by
  rcases np_0 h1 with ⟨a1, a2, a3, a4, a5⟩ | ⟨a1, a2⟩
  · subst a3 a5
    rcases sg_y h2 with ⟨b1, b2⟩ | ⟨b1, b2⟩
    · exact Or.inl ⟨b2, by unfold s1; rw [a1, decide_eq_true (ca_e hX (k := 59) b1)]; rfl, a4, rfl⟩
    · exact Or.inr ⟨b2, by unfold s1; rw [decide_eq_false (ca_n (k := 59) b1)]; simp⟩
  · subst a1
    exact Or.inr ⟨sg_n h2 (by decide), a2 59 (Or.inr rfl)⟩
def nmV (V : VT) : Int64 := V.2.2.2.2.2.2.2
def STp (R : Nat × Nat × VT) (rs : Int32) (q : Nat) (fr : Nat → Int32) (ws ws' : Nat) : Prop := rs = nI R.1 ∧ (R.1 = 0 → q = R.2.1 ∧ MRV R.2.2 fr ∧ (ws' = 0 ↔ nmV R.2.2 = 0) ∧ ws' ≤ ws + 1)
theorem st_1 {tx : Nat → Nat} {L p q ws ws' : Nat} {V : VT} {fr : Nat → Int32} (hm : ¬ mb (ca tx L p) p = true) : STp (pS tx L p V) 1 q fr ws ws' := by
  unfold pS; rw [if_neg hm]; exact ⟨rfl, fun (z : (1 : Nat) = 0) => absurd z (by decide)⟩
theorem tG_nm {k t a b : Nat} {V : VT} : nmV (tG k t a b V).2 = nmV V := by
  obtain ⟨n, N, o, ty, pa, pb, vo, nm⟩ := V
  unfold tG; dsimp only
  split
  · split <;> rfl
  · rfl
theorem st_g {tx : Nat → Nat} {L p q ws : Nat} {V : VT} {fr : Nat → Int32} {rs : Int32} (hm : mb (ca tx L p) p = true) (hc : ca tx L p = 103) (hw : ws = 0 ↔ nmV V = 0) (h : GHp (gR tx L (p + 1) V) (gq tx L (p + 1)) rs q fr) : STp (pS tx L p V) rs q fr ws ws := by
  unfold pS; rw [if_pos hm, if_pos hc]
  unfold gR at h
  by_cases g : (ga tx L (p + 1) || gb tx L (p + 1)) = true
  · rw [if_pos g] at h ⊢
    exact ⟨h.1, fun z => ⟨(h.2 z).1, (h.2 z).2, by rw [tG_nm]; exact hw, by omega⟩⟩
  · rw [if_neg g] at h ⊢
    exact ⟨h.1, fun (z : (2 : Nat) = 0) => absurd z (by decide)⟩
theorem st_2 {tx : Nat → Nat} {L p q ws ws' : Nat} {V : VT} {fr : Nat → Int32} {rs : Int32} (hm : mb (ca tx L p) p = true) (hc : ¬ ca tx L p = 103) (hs : s1 tx L (p + 1) = false) (hr : rs = 2) : STp (pS tx L p V) rs q fr ws ws' := by
  unfold pS; rw [if_pos hm, if_neg hc, if_neg (by rw [hs]; decide)]; exact ⟨hr, fun (z : (2 : Nat) = 0) => absurd z (by decide)⟩
theorem ck_2 {b1 b2 rs : Int32} (h : ckd 2 b1 b2 rs) : rs = 2 := by unfold ckd at h; rw [if_neg (by decide)] at h; exact h
theorem st_i {tx : Nat → Nat} {L p q ws : Nat} {ty pa pb vo : Nat → Nat} {fc fr : Nat → Int32} {r rs rs' : Int32} (hX : TX tx L fc) (hm : mb (ca tx L p) p = true) (hc : ca tx L p = 105) (hS : SF tx L (p + 1) r rs q) (hk : ckd rs (bI (inL r.toInt64 1 6)) 1 rs') (hM : MR 0 0 0 0 0 ty pa pb vo 0 fr) (hws : ws = 0) : STp (pS tx L p (0, 0, 0, ty, pa, pb, vo, 0)) rs' q (upd fr 0 r) ws ws := by
  have h103 : ¬ ca tx L p = 103 := by rw [hc]; decide
  rcases hS with ⟨a1, a2, a3, a4⟩ | ⟨a1, a2⟩
  · subst a1 a3
    unfold pS; rw [if_pos hm, if_neg h103, if_pos a2, if_pos hc]
    rw [in_16 (cV_lt hX _)] at hk
    unfold ckd at hk
    rw [if_pos rfl] at hk
    unfold tI
    by_cases hv : 1 ≤ cV tx L (p + 1) ∧ cV tx L (p + 1) ≤ 6
    · rw [decide_eq_true hv, if_neg (by decide), if_neg (by decide)] at hk
      rw [if_pos hv]
      exact ⟨hk, fun _ => ⟨a4, MR_I hM, ⟨fun _ => rfl, fun _ => hws⟩, by omega⟩⟩
    · rw [decide_eq_false hv, if_pos (by decide)] at hk
      rw [if_neg hv]
      exact ⟨hk, fun (z : (3 : Nat) = 0) => absurd z (by decide)⟩
  · subst a1
    exact st_2 hm h103 a2 (ck_2 hk)
theorem st_on {tx : Nat → Nat} {L p q n N o ws ws' : Nat} {ty pa pb vo : Nat → Nat} {nm : Int64} {fc fr : Nat → Int32} {r rs rs' b2 : Int32} (hX : TX tx L fc) (hN : N ≤ 30) (hm : mb (ca tx L p) p = true) (hc : ca tx L p = 111) (hS : SF tx L (p + 1) r rs q) (hk : ckd rs (if nI N ≤ r then 0 else 1) b2 rs') (e2 : (b2 = 1 ∧ o < 6) ∨ (b2 = 0 ∧ ¬ o < 6)) (h0 : ¬ rs' = 0) : STp (pS tx L p (n, N, o, ty, pa, pb, vo, nm)) rs' q fr ws ws' := by
  have h103 : ¬ ca tx L p = 103 := by rw [hc]; decide
  have h105 : ¬ ca tx L p = 105 := by rw [hc]; decide
  rcases hS with ⟨a1, a2, a3, a4⟩ | ⟨a1, a2⟩
  · subst a1 a3
    have v1 := cV_lt hX (p + 1)
    have iN : nI N ≤ nI (cV tx L (p + 1)) ↔ N ≤ cV tx L (p + 1) := nI_leI (by omega) (by omega)
    unfold pS; rw [if_pos hm, if_neg h103, if_pos a2, if_neg h105, if_pos hc]
    unfold tO; dsimp only
    by_cases hv : cV tx L (p + 1) < N
    · rw [if_neg (mt iN.mp (by omega))] at hk
      rcases ck_n (P1 := True) hk h0 (Or.inl ⟨rfl, trivial⟩) e2 with c | c | c
      · exact absurd rfl c.1
      · exact absurd trivial c.2.1
      · rw [if_pos hv, if_neg c.2.2.1]
        exact ⟨c.2.2.2, fun (z : (4 : Nat) = 0) => absurd z (by decide)⟩
    · rw [if_pos (iN.mpr (by omega))] at hk
      rcases ck_n (P1 := False) hk h0 (Or.inr ⟨rfl, id⟩) e2 with c | c | c
      · exact absurd rfl c.1
      · rw [if_neg hv]
        exact ⟨c.2.2, fun (z : (3 : Nat) = 0) => absurd z (by decide)⟩
      · exact absurd c.2.1 id
  · subst a1
    exact st_2 hm h103 a2 (ck_2 hk)
theorem sf_y {tx : Nat → Nat} {L p q : Nat} {r rs rs' b1 b2 : Int32} (hS : SF tx L p r rs q) (hk : ckd rs b1 b2 rs') (h0 : rs' = 0) : s1 tx L p = true ∧ r = nI (cV tx L p) ∧ q = cP tx L p + 1 ∧ ¬ b1 = 0 ∧ ¬ b2 = 0 := by
  have c := ck_0 hk h0
  rcases hS with ⟨a1, a2, a3, a4⟩ | ⟨a1, a2⟩
  · exact ⟨a2, a3, a4, c.2.1, c.2.2⟩
  · rw [a1] at c; exact absurd c.1 (by decide)
theorem st_oy {tx : Nat → Nat} {L p q n N o ws : Nat} {ty pa pb vo : Nat → Nat} {nm : Int64} {fc fr : Nat → Int32} {rs' : Int32} (hX : TX tx L fc) (hN : N ≤ 30) (hN2 : N ≤ n + 24) (hm : mb (ca tx L p) p = true) (hc : ca tx L p = 111) (hs : s1 tx L (p + 1) = true) (hq : q = cP tx L (p + 1) + 1) (hb : ¬ (if nI N ≤ nI (cV tx L (p + 1)) then (0 : Int32) else 1) = 0) (ho : o < 6) (h0 : rs' = 0) (hM : MR n N o 0 0 ty pa pb vo nm fr) (hw : ws = 0 ↔ nm = 0) : STp (pS tx L p (n, N, o, ty, pa, pb, vo, nm)) rs' q (upd (upd fr (75 + o) (nI (cV tx L (p + 1)))) 74 (nI (o + 1))) ws ws := by
  have h103 : ¬ ca tx L p = 103 := by rw [hc]; decide
  have h105 : ¬ ca tx L p = 105 := by rw [hc]; decide
  have v1 := cV_lt hX (p + 1)
  have iN : nI N ≤ nI (cV tx L (p + 1)) ↔ N ≤ cV tx L (p + 1) := nI_leI (by omega) (by omega)
  have hv : cV tx L (p + 1) < N := by have := mt iN.mpr (ic_1 hb); omega
  unfold pS; rw [if_pos hm, if_neg h103, if_pos hs, if_neg h105, if_pos hc]
  unfold tO; dsimp only
  rw [if_pos hv, if_pos ho]
  exact ⟨h0, fun _ => ⟨hq, MR_O hM hv ho hN2, hw, by omega⟩⟩
theorem st_wn {tx : Nat → Nat} {L p q n N o ws ws' : Nat} {ty pa pb vo : Nat → Nat} {nm : Int64} {fc fr : Nat → Int32} {r rs rs' b1 : Int32} (hX : TX tx L fc) (hn : n ≤ 6) (hm : mb (ca tx L p) p = true) (hc : ca tx L p = 119) (hS : SF tx L (p + 1) r rs q) (hk : ckd rs b1 1 rs') (e1 : (b1 = 1 ∧ ¬ nI (2 ^ n) ≤ r) ∨ (b1 = 0 ∧ nI (2 ^ n) ≤ r)) (h0 : ¬ rs' = 0) : STp (pS tx L p (n, N, o, ty, pa, pb, vo, nm)) rs' q fr ws ws' := by
  have h103 : ¬ ca tx L p = 103 := by rw [hc]; decide
  have h105 : ¬ ca tx L p = 105 := by rw [hc]; decide
  have h111 : ¬ ca tx L p = 111 := by rw [hc]; decide
  rcases hS with ⟨a1, a2, a3, a4⟩ | ⟨a1, a2⟩
  · subst a1 a3
    have v1 := cV_lt hX (p + 1)
    have iN : nI (2 ^ n) ≤ nI (cV tx L (p + 1)) ↔ 2 ^ n ≤ cV tx L (p + 1) := nI_leI (pw_31 hn) (by omega)
    unfold pS; rw [if_pos hm, if_neg h103, if_pos a2, if_neg h105, if_neg h111]
    unfold tW; dsimp only
    rcases ck_n (P1 := ¬ nI (2 ^ n) ≤ nI (cV tx L (p + 1))) (P2 := True) hk h0 (e1.elim Or.inl (fun z => Or.inr ⟨z.1, fun z9 => z9 z.2⟩)) (Or.inl ⟨rfl, trivial⟩) with c | c | c
    · exact absurd rfl c.1
    · rw [if_neg (by have := iN.mp (Classical.not_not.mp c.2.1); omega)]
      exact ⟨c.2.2, fun (z : (3 : Nat) = 0) => absurd z (by decide)⟩
    · exact absurd trivial c.2.2.1
  · subst a1
    exact st_2 hm h103 a2 (ck_2 hk)
theorem bt_n {nm : Int64} {v : Nat} (hv : v < 64) : ¬ nm ||| bt v = 0 := fun q => by
  have e : lb (nm ||| bt v) v = false := by rw [q]; exact lb_0 v
  rw [lb_or, lb_bt hv, decide_eq_true rfl, Bool.or_true] at e
  cases e
theorem st_wy {tx : Nat → Nat} {L p q n N o ws : Nat} {ty pa pb vo : Nat → Nat} {nm : Int64} {fr : Nat → Int32} {rs' : Int32} (hn : n ≤ 6) (ho : o ≤ 6) (hN2 : N ≤ n + 24) (hm : mb (ca tx L p) p = true) (hc : ca tx L p = 119) (hs : s1 tx L (p + 1) = true) (hq : q = cP tx L (p + 1) + 1) (hv : cV tx L (p + 1) < 2 ^ n) (h0 : rs' = 0) (hM : MR n N o 0 0 ty pa pb vo nm fr) : STp (pS tx L p (n, N, o, ty, pa, pb, vo, nm)) rs' q (upd fr (83 + cV tx L (p + 1)) 1) ws (ws + 1) := by
  have h103 : ¬ ca tx L p = 103 := by rw [hc]; decide
  have h105 : ¬ ca tx L p = 105 := by rw [hc]; decide
  have h111 : ¬ ca tx L p = 111 := by rw [hc]; decide
  unfold pS; rw [if_pos hm, if_neg h103, if_pos hs, if_neg h105, if_neg h111]
  unfold tW; dsimp only
  rw [if_pos hv]
  exact ⟨h0, fun _ => ⟨hq, MR_W hM (pw_64 hn hv) ho hN2, ⟨fun z => absurd z (by omega), fun z => absurd z (bt_n (pw_64 hn hv))⟩, by omega⟩⟩
