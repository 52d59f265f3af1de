/-! the reference's reading of the text -/
def nV (c0 c1 i : Nat) : Int32 := if i = 0 then 0 else if i = 1 then nI (c0 - 48) else nI (10 * (c0 - 48) + (c1 - 48))
theorem in_dg : ∀ c, c < 128 → inL (nI c).toInt64 48 57 = dg c := by decide +kernel
theorem in_12 {i : Nat} (hi : i < 1000) : inL (nI i).toInt64 1 2 = decide (1 ≤ i ∧ i ≤ 2) := by
  unfold inL
  have e : (nI i).toInt64.toInt = (i : Int) := by rw [Int32.toInt_toInt64, nI_toInt (by omega)]
  have z1 : (1 : Int64).toInt = 1 := by decide
  have z2 : (2 : Int64).toInt = 2 := by decide
  rw [← Bool.decide_and]
  apply decide_eq_decide.mpr
  rw [Int64.le_iff_toInt_le, Int64.le_iff_toInt_le, e, z1, z2]; omega
theorem in_16 {i : Nat} (hi : i < 1000) : inL (nI i).toInt64 1 6 = decide (1 ≤ i ∧ i ≤ 6) := by
  unfold inL
  have e : (nI i).toInt64.toInt = (i : Int) := by rw [Int32.toInt_toInt64, nI_toInt (by omega)]
  have z1 : (1 : Int64).toInt = 1 := by decide
  have z2 : (6 : Int64).toInt = 6 := by decide
  rw [← Bool.decide_and]
  apply decide_eq_decide.mpr
  rw [Int64.le_iff_toInt_le, Int64.le_iff_toInt_le, e, z1, z2]; omega
theorem nV_s {tx : Nat → Nat} {L p i : Nat} (hi : i < 1000) (h : ¬ (2 : Int32) ≤ nI i) (hd : dg (ca tx L (p + i)) = true) : 10 * nV (ca tx L p) (ca tx L (p + 1)) i + nI (ca tx L (p + i)) - 48 = nV (ca tx L p) (ca tx L (p + 1)) (i + 1) := by
  have h2 : i < 2 := hk_nge 2 h
  have a := dg_t hd
  rcases (by omega : i = 0 ∨ i = 1) with rfl | rfl
  · unfold nV
    rw [if_pos rfl, if_neg (by decide), if_pos rfl, show (10 : Int32) * 0 + nI (ca tx L (p + 0)) = nI (ca tx L (p + 0)) from by rw [show (10 : Int32) * 0 = nI 0 from by decide, nI_add]; congr 1; omega, nI_sb a.1]
    rfl
  · unfold nV
    rw [if_neg (by decide), if_pos rfl, if_neg (by decide), if_neg (by decide), show (10 : Int32) = nI 10 from rfl, pk_mul, nI_add, nI_sb (by omega)]
    congr 1; omega
theorem nV_t {c0 c1 i : Nat} (hi : i < 1000) (h : (2 : Int32) ≤ nI i) : nV c0 c1 i = nV c0 c1 (i + 1) := by
  have h2 := hk_ge 2 h
  unfold nV
  rw [if_neg (by omega), if_neg (by omega), if_neg (by omega), if_neg (by omega)]
def nOk (tx : Nat → Nat) (L p : Nat) : Prop := dg (ca tx L p) = true ∧ dg (ca tx L (cP tx L p)) = false
def NPp (tx : Nat → Nat) (L p : Nat) (rx r rs : Int32) (q : Nat) : Prop := (¬ rx = 0 → rs = rx) ∧ (rx = 0 → (nOk tx L p → rs = 0 ∧ r = nI (cV tx L p) ∧ q = cP tx L p) ∧ (¬ nOk tx L p → rs = 2)) ∧ (q ≤ p ∨ q ≤ 200)
theorem np_i {tx : Nat → Nat} {L p i : Nat} (hall : ∀ j, j < i → dg (ca tx L (p + j)) = true) (hend : dg (ca tx L (p + i)) = false) : (nOk tx L p ↔ (1 ≤ i ∧ i ≤ 2)) ∧ (1 ≤ i → i ≤ 2 → nV (ca tx L p) (ca tx L (p + 1)) i = nI (cV tx L p) ∧ p + i = cP tx L p) := by
  rcases (by omega : i = 0 ∨ i = 1 ∨ i = 2 ∨ 3 ≤ i) with rfl | rfl | rfl | h3
  · refine ⟨⟨fun q => ?_, fun q => by omega⟩, fun q _ => by omega⟩
    have q1 := q.1
    rw [show ca tx L p = ca tx L (p + 0) from rfl, hend] at q1; cases q1
  · have d0 : dg (ca tx L p) = true := hall 0 (by decide)
    have e1 : ¬ dg (ca tx L (p + 1)) = true := by rw [hend]; decide
    have ec : cP tx L p = p + 1 := by unfold cP; rw [if_pos d0, if_neg e1]
    have ev : cV tx L p = ca tx L p - 48 := by unfold cV; rw [if_neg e1]
    refine ⟨⟨fun _ => ⟨by decide, by decide⟩, fun _ => ⟨d0, by rw [ec]; exact hend⟩⟩, fun _ _ => ⟨?_, ec.symm⟩⟩
    rw [ev]; unfold nV; rw [if_neg (by decide), if_pos rfl]
  · have d0 : dg (ca tx L p) = true := hall 0 (by decide)
    have d1 : dg (ca tx L (p + 1)) = true := hall 1 (by decide)
    have ec : cP tx L p = p + 2 := by unfold cP; rw [if_pos d0, if_pos d1]
    have ev : cV tx L p = 10 * (ca tx L p - 48) + (ca tx L (p + 1) - 48) := by unfold cV; rw [if_pos d1]
    refine ⟨⟨fun _ => ⟨by decide, by decide⟩, fun _ => ⟨d0, by rw [ec]; exact hend⟩⟩, fun _ _ => ⟨?_, ec.symm⟩⟩
    rw [ev]; unfold nV; rw [if_neg (by decide), if_neg (by decide)]
  · have d0 : dg (ca tx L p) = true := hall 0 (by omega)
    have d1 : dg (ca tx L (p + 1)) = true := hall 1 (by omega)
    have d2 : dg (ca tx L (p + 2)) = true := hall 2 (by omega)
    have ec : cP tx L p = p + 2 := by unfold cP; rw [if_pos d0, if_pos d1]
    refine ⟨⟨fun q => ?_, fun q => by omega⟩, fun _ _ => by omega⟩
    have q2 := q.2
    rw [ec, d2] at q2; cases q2
/-- the circuit in the reference's row, without code and weight -/
def MRV (V : VT) (fr : Nat → Int32) : Prop := MR V.1 V.2.1 V.2.2.1 0 0 V.2.2.2.1 V.2.2.2.2.1 V.2.2.2.2.2.1 V.2.2.2.2.2.2.1 V.2.2.2.2.2.2.2 fr
def VK (V : VT) : Prop := V.1 ≤ 6 ∧ V.1 ≤ V.2.1 ∧ V.2.1 ≤ V.1 + 24 ∧ V.2.2.1 ≤ 6 ∧ ∀ w, 2 ^ V.1 ≤ w → lb V.2.2.2.2.2.2.2 w = false
theorem MR_I {v : Nat} {fr : Nat → Int32} {ty pa pb vo : Nat → Nat} (h : MR 0 0 0 0 0 ty pa pb vo 0 fr) : MR v v 0 0 0 zf zf zf zf 0 (upd fr 0 (nI v)) := by
  obtain ⟨⟨h1, h2, h3, h4, h5⟩, h6, h7, h8⟩ := h
  refine ⟨⟨pk_us, by rw [pk_un (by decide), h2]; congr 1; omega, by rw [pk_un (by decide)]; exact h3, by rw [pk_un (by decide)]; exact h4, by rw [pk_un (by decide)]; exact h5⟩, fun j hj hj2 => by omega, fun k hk => by omega, fun w hw => by rw [pk_un (by omega)]; exact h8 w hw⟩
theorem MR_O {n N o cd wt : Nat} {ty pa pb vo : Nat → Nat} {nm : Int64} {fs : Nat → Int32} {v : Nat} (h : MR n N o cd wt ty pa pb vo nm fs) (hv : v < N) (ho : o < 6) (hN : N ≤ n + 24) : MR n N (o + 1) cd wt ty pa pb (upN vo o v) nm (upd (upd fs (75 + o) (nI v)) 74 (nI (o + 1))) := by
  obtain ⟨⟨h1, h2, h3, h4, h5⟩, h6, h7, h8⟩ := h
  refine ⟨⟨by rw [pk_un (by decide), pk_un (by omega)]; exact h1, by rw [pk_un (by decide), pk_un (by omega)]; exact h2, pk_us, by rw [pk_un (by decide), pk_un (by omega)]; exact h4, by rw [pk_un (by decide), pk_un (by omega)]; exact h5⟩, fun j hj hj2 => ?_, fun k hk => ?_, fun w hw => by rw [pk_un (by omega), pk_un (by omega)]; exact h8 w hw⟩
  · rw [pk_un (by omega), pk_un (by omega), pk_un (by omega), pk_un (by omega), pk_un (by omega), pk_un (by omega)]
    exact h6 j hj hj2
  · by_cases e : k = o
    · subst e; rw [pk_un (by omega), pk_us, up_s]; exact ⟨rfl, hv⟩
    · rw [pk_un (by omega), pk_un (by omega), up_n e]; exact h7 k (by omega)
theorem MR_W {n N o cd wt : Nat} {ty pa pb vo : Nat → Nat} {nm : Int64} {fs : Nat → Int32} {v : Nat} (h : MR n N o cd wt ty pa pb vo nm fs) (hv : v < 64) (ho : o ≤ 6) (hN : N ≤ n + 24) : MR n N o cd wt ty pa pb vo (nm ||| bt v) (upd fs (83 + v) 1) := by
  obtain ⟨⟨h1, h2, h3, h4, h5⟩, h6, h7, h8⟩ := h
  refine ⟨⟨by rw [pk_un (by omega)]; exact h1, by rw [pk_un (by omega)]; exact h2, by rw [pk_un (by omega)]; exact h3, by rw [pk_un (by omega)]; exact h4, by rw [pk_un (by omega)]; exact h5⟩, fun j hj hj2 => ?_, fun k hk => by rw [pk_un (by omega)]; exact h7 k hk, fun w hw => ?_⟩
  · rw [pk_un (by omega), pk_un (by omega), pk_un (by omega)]; exact h6 j hj hj2
  · rw [lb_or, lb_bt hv]
    by_cases e : w = v
    · subst e; rw [pk_us, decide_eq_true rfl]; simp [bI]
    · rw [pk_un (by omega), decide_eq_false e, Bool.or_false]; exact h8 w hw
theorem MR_G {n N o cd wt : Nat} {ty pa pb vo : Nat → Nat} {nm : Int64} {fs : Nat → Int32} {t a b : Nat} {y x : Int32} (h : MR n N o cd wt ty pa pb vo nm fs) (hn : n ≤ N) (hr : N + 1 ≤ n + 24) (ho : o ≤ 6) (ht : t ≤ 5) (ha : a < N) (hb : ¬ t = 5 → b < N ∧ x = nI b) (hy : y = nI t) : MR n (N + 1) o cd wt (upN ty N t) (upN pa N a) (upN pb N (if t = 5 then a else b)) vo nm (gU fs (N - n) y (nI a) x) := by
  obtain ⟨⟨h1, h2, h3, h4, h5⟩, h6, h7, h8⟩ := h
  subst hy
  have hb2 : ∀ k, 74 ≤ k → gU fs (N - n) (nI t) (nI a) x k = fs k := fun k hk => by unfold gU; rw [pk_un (by omega), pk_un (by omega), pk_un (by omega), pk_un (by omega)]
  refine ⟨⟨gU_0.trans h1, gU_1.trans (by congr 1; omega), (hb2 _ (by omega)).trans h3, (hb2 _ (by omega)).trans h4, (hb2 _ (by omega)).trans h5⟩, fun j hj hj2 => ?_, fun k hk => by rw [hb2 _ (by omega)]; exact ⟨(h7 k hk).1, by have := (h7 k hk).2; omega⟩, fun w hw => by rw [hb2 _ (by omega)]; exact h8 w hw⟩
  by_cases e : j = N
  · subst e
    rw [up_s, up_s, up_s]
    have e0 : gU fs (j - n) (nI t) (nI a) x (2 + 3 * (j - n)) = nI t := by unfold gU; rw [pk_un (by omega), pk_un (by omega), pk_un (by omega), pk_us]
    have e1 : gU fs (j - n) (nI t) (nI a) x (2 + 3 * (j - n) + 1) = nI a := by unfold gU; rw [pk_un (by omega), pk_un (by omega), pk_us]
    have e2 : gU fs (j - n) (nI t) (nI a) x (2 + 3 * (j - n) + 2) = x := by unfold gU; rw [pk_un (by omega), pk_us]
    refine ⟨e0, ht, e1, ha, fun q => ?_⟩
    rw [if_neg q]
    exact ⟨e2.trans (hb q).2, (hb q).1⟩
  · rw [up_n e, up_n e, up_n e]
    have ee : ∀ k, k < 3 → gU fs (N - n) (nI t) (nI a) x (2 + 3 * (j - n) + k) = fs (2 + 3 * (j - n) + k) := fun k hk => by unfold gU; rw [pk_un (by omega), pk_un (by omega), pk_un (by omega), pk_un (by omega)]
    have e0 := ee 0 (by decide)
    rw [ee 1 (by decide), ee 2 (by decide), show gU fs (N - n) (nI t) (nI a) x (2 + 3 * (j - n)) = fs (2 + 3 * (j - n)) from e0]
    exact h6 j hj (by omega)
/-- the numbers of a gate as the reference reads them -/
def GF (tx : Nat → Nat) (L p : Nat) (two : Bool) (r1 r2 r3 rs : Int32) (q : Nat) : Prop := (rs = 0 ∧ (ga tx L p || gb tx L p) = true ∧ gb tx L p = two ∧ r1 = nI (cV tx L p) ∧ r2 = nI (cV tx L (cP tx L p + 1)) ∧ (two = true → r3 = nI (cV tx L (cP tx L (cP tx L p + 1) + 1))) ∧ q = gq tx L p) ∨ (rs = 2 ∧ (ga tx L p || gb tx L p) = false)
def sg (tx : Nat → Nat) (L p : Nat) (wv rx rs : Int32) : Prop := rs = if rx = 0 ∧ ¬ nI (ca tx L p) = wv then 2 else rx
theorem sg_n {tx : Nat → Nat} {L p : Nat} {wv rx rs : Int32} (h : sg tx L p wv rx rs) (h0 : ¬ rx = 0) : rs = rx := by unfold sg at h; rw [if_neg (fun q => h0 q.1)] at h; exact h
theorem sg_y {tx : Nat → Nat} {L p : Nat} {wv rs : Int32} (h : sg tx L p wv 0 rs) : (nI (ca tx L p) = wv ∧ rs = 0) ∨ (¬ nI (ca tx L p) = wv ∧ rs = 2) := by
  unfold sg at h
  by_cases q : nI (ca tx L p) = wv
  · rw [if_neg (fun z => z.2 q)] at h; exact Or.inl ⟨q, h⟩
  · rw [if_pos ⟨rfl, q⟩] at h; exact Or.inr ⟨q, h⟩
theorem np_0 {tx : Nat → Nat} {L p q : Nat} {r rs : Int32} (h : NPp tx L p 0 r rs q) : (dg (ca tx L p) = true ∧ dg (ca tx L (cP tx L p)) = false ∧ rs = 0 ∧ r = nI (cV tx L p) ∧ q = cP tx L p) ∨ (rs = 2 ∧ ∀ k, (k = 44 ∨ k = 59) → (dg (ca tx L p) && decide (ca tx L (cP tx L p) = k)) = false) := by
  by_cases ok : nOk tx L p
  · obtain ⟨h1, h2, h3⟩ := (h.2.1 rfl).1 ok
    exact Or.inl ⟨ok.1, ok.2, h1, h2, h3⟩
  · refine Or.inr ⟨(h.2.1 rfl).2 ok, fun k hk => ?_⟩
    cases d : dg (ca tx L p)
    · rfl
    · rw [Bool.true_and]
      apply decide_eq_false
      intro e
      apply ok
      refine ⟨d, ?_⟩
      rw [e]
      rcases hk with rfl | rfl <;> decide
theorem gf_1 {tx : Nat → Nat} {L p p1 p2 : Nat} {fc : Nat → Int32} {r1 r2 rs1 rs2 rs3 : Int32} (hX : TX tx L fc) (h1 : NPp tx L p 0 r1 rs1 p1) (h2 : sg tx L p1 44 rs1 rs2) (h3 : NPp tx L (p1 + 1) rs2 r2 rs3 p2) : (rs3 = 0 ∧ dg (ca tx L p) = true ∧ ca tx L (cP tx L p) = 44 ∧ r1 = nI (cV tx L p) ∧ p1 = cP tx L p ∧ dg (ca tx L (cP tx L p + 1)) = true ∧ r2 = nI (cV tx L (cP tx L p + 1)) ∧ p2 = cP tx L (cP tx L p + 1)) ∨ (rs3 = 2 ∧ (ga tx L p || gb tx L p) = false) := by
  rcases np_0 h1 with ⟨a1, a2, a3, a4, a5⟩ | ⟨a1, a2⟩
  · subst a3 a5
    rcases sg_y h2 with ⟨b1, b2⟩ | ⟨b1, b2⟩
    · subst b2
      have b3 := ca_e hX (k := 44) b1
      rcases np_0 h3 with ⟨c1, c2, c3, c4, c5⟩ | ⟨c1, c2⟩
      · exact Or.inl ⟨c3, a1, b3, a4, rfl, c1, c4, c5⟩
      · refine Or.inr ⟨c1, ?_⟩
        unfold ga gb
        rw [c2 44 (Or.inl rfl), c2 59 (Or.inr rfl)]
        simp
    · subst b2
      refine Or.inr ⟨h3.1 (by decide), ?_⟩
      have b3 := ca_n (k := 44) b1
      unfold ga gb
      rw [decide_eq_false b3]
      simp
  · subst a1
    have b := sg_n h2 (by decide)
    subst b
    refine Or.inr ⟨h3.1 (by decide), ?_⟩
    unfold ga gb
    rw [a2 44 (Or.inl rfl)]
    simp
theorem gf_A {tx : Nat → Nat} {L p p1 p2 : Nat} {fc : Nat → Int32} {r1 r2 rs1 rs2 rs3 rs6 : Int32} (hX : TX tx L fc) (h1 : NPp tx L p 0 r1 rs1 p1) (h2 : sg tx L p1 44 rs1 rs2) (h3 : NPp tx L (p1 + 1) rs2 r2 rs3 p2) (h4 : sg tx L p2 59 rs3 rs6) (h0 : ¬ rs3 = 0) (r3 : Int32) : GF tx L p false r1 r2 r3 rs6 (p2 + 1) := by
  rcases gf_1 hX h1 h2 h3 with a | ⟨a1, a2⟩
  · exact absurd a.1 h0
  · exact Or.inr ⟨(sg_n h4 h0).trans a1, a2⟩
theorem gf_B {tx : Nat → Nat} {L p p1 p2 : Nat} {fc : Nat → Int32} {r1 r2 rs1 rs2 rs3 rs6 : Int32} (hX : TX tx L fc) (h1 : NPp tx L p 0 r1 rs1 p1) (h2 : sg tx L p1 44 rs1 rs2) (h3 : NPp tx L (p1 + 1) rs2 r2 rs3 p2) (h4 : sg tx L p2 59 rs3 rs6) (h0 : rs3 = 0) (hc : ¬ nI (ca tx L p2) = 44) (r3 : Int32) : GF tx L p false r1 r2 r3 rs6 (p2 + 1) := by
  rcases gf_1 hX h1 h2 h3 with ⟨a1, a2, a3, a4, a5, a6, a7, a8⟩ | ⟨a1, a2⟩
  · subst a1 a8
    have c := ca_n (k := 44) hc
    have egb : gb tx L p = false := by unfold gb; simp [c]
    rcases sg_y h4 with ⟨b1, b2⟩ | ⟨b1, b2⟩
    · have b3 := ca_e hX (k := 59) b1
      have ega : ga tx L p = true := by unfold ga; simp [a2, a3, a6, b3]
      refine Or.inl ⟨b2, by rw [ega]; rfl, egb, a4, a7, fun q => (by cases q), ?_⟩
      unfold gq; rw [if_neg (by rw [egb]; decide)]
    · have b3 := ca_n (k := 59) b1
      have ega : ga tx L p = false := by unfold ga; simp [b3]
      exact Or.inr ⟨b2, by rw [ega, egb]; rfl⟩
  · rw [h0] at a1; exact absurd a1 (by decide)
theorem gf_C {tx : Nat → Nat} {L p p1 p2 p3 : Nat} {fc : Nat → Int32} {r1 r2 r3 rs1 rs2 rs3 rs4 rs5 rs6 : Int32} (hX : TX tx L fc) (h1 : NPp tx L p 0 r1 rs1 p1) (h2 : sg tx L p1 44 rs1 rs2) (h3 : NPp tx L (p1 + 1) rs2 r2 rs3 p2) (h0 : rs3 = 0) (hc : nI (ca tx L p2) = 44) (h4 : sg tx L p2 44 rs3 rs4) (h5 : NPp tx L (p2 + 1) rs4 r3 rs5 p3) (h6 : sg tx L p3 59 rs5 rs6) : GF tx L p true r1 r2 r3 rs6 (p3 + 1) := by
  rcases gf_1 hX h1 h2 h3 with ⟨a1, a2, a3, a4, a5, a6, a7, a8⟩ | ⟨a1, a2⟩
  · subst a1 a8
    have c := ca_e hX (k := 44) hc
    have ega : ga tx L p = false := by unfold ga; simp [c]
    have e4 : rs4 = 0 := (sg_y h4).elim (fun z => z.2) (fun z => absurd hc z.1)
    subst e4
    rcases np_0 h5 with ⟨d1, d2, d3, d4, d5⟩ | ⟨d1, d2⟩
    · subst d3 d5
      rcases sg_y h6 with ⟨b1, b2⟩ | ⟨b1, b2⟩
      · have b3 := ca_e hX (k := 59) b1
        have egb : gb tx L p = true := by unfold gb; simp [a2, a3, a6, c, d1, b3]
        refine Or.inl ⟨b2, by rw [egb]; simp, egb, a4, a7, fun _ => d4, ?_⟩
        unfold gq; rw [if_pos egb]
      · have b3 := ca_n (k := 59) b1
        have egb : gb tx L p = false := by unfold gb; simp [b3]
        exact Or.inr ⟨b2, by rw [ega, egb]; rfl⟩
    · subst d1
      refine Or.inr ⟨sg_n h6 (by decide), ?_⟩
      have egb : gb tx L p = false := by
        unfold gb
        rw [d2 59 (Or.inr rfl)]
        simp
      rw [ega, egb]; rfl
  · rw [h0] at a1; exact absurd a1 (by decide)
def B1 (two : Bool) (N : Nat) (r1 r2 r3 : Int32) : Prop := ¬ (5 : Int32) < r1 ∧ (r1 = 5 ↔ two = false) ∧ ¬ nI N ≤ r2 ∧ (two = true → ¬ nI N ≤ r3)
def gR (tx : Nat → Nat) (L p : Nat) (V : VT) : Nat × VT := if (ga tx L p || gb tx L p) = true then tG (gk tx L p) (cV tx L p) (cV tx L (cP tx L p + 1)) (cV tx L (cP tx L (cP tx L p + 1) + 1)) V else (2, V)
def ckd (rx b1 b2 rs : Int32) : Prop := rs = if rx = 0 then (if b1 = 0 then 3 else if b2 = 0 then 4 else 0) else rx
theorem B1_c {tx : Nat → Nat} {L p N : Nat} {fc : Nat → Int32} {two : Bool} {r1 r2 r3 : Int32} (hX : TX tx L fc) (hN : N ≤ 30) (hk : gb tx L p = two) (e1 : r1 = nI (cV tx L p)) (e2 : r2 = nI (cV tx L (cP tx L p + 1))) (e3 : two = true → r3 = nI (cV tx L (cP tx L (cP tx L p + 1) + 1))) : B1 two N r1 r2 r3 ↔ (cV tx L p ≤ 5 ∧ (cV tx L p = 5 ↔ gk tx L p = 2) ∧ cV tx L (cP tx L p + 1) < N ∧ (gk tx L p = 3 → cV tx L (cP tx L (cP tx L p + 1) + 1) < N)) := by
  have v1 := cV_lt hX p
  have v2 := cV_lt hX (cP tx L p + 1)
  have v3 := cV_lt hX (cP tx L (cP tx L p + 1) + 1)
  subst e1 e2
  have i1 : (5 : Int32) < nI (cV tx L p) ↔ 5 < cV tx L p := nI_ltI (a := 5) (by decide) (by omega)
  have i2 : nI (cV tx L p) = (5 : Int32) ↔ cV tx L p = 5 := ⟨fun q => nI_inj (b := 5) q (by omega) (by decide), fun q => by rw [q]; rfl⟩
  have i3 : nI N ≤ nI (cV tx L (cP tx L p + 1)) ↔ N ≤ cV tx L (cP tx L p + 1) := nI_leI (by omega) (by omega)
  have i4 : nI N ≤ nI (cV tx L (cP tx L (cP tx L p + 1) + 1)) ↔ N ≤ cV tx L (cP tx L (cP tx L p + 1) + 1) := nI_leI (by omega) (by omega)
  have ek : gk tx L p = if two = true then 3 else 2 := by unfold gk; rw [hk]
  unfold B1
  rw [i1, i2, i3, ek]
  cases two
  · simp
  · rw [e3 rfl, i4]; simp
theorem ck_0 {rx b1 b2 rs : Int32} (h : ckd rx b1 b2 rs) (h0 : rs = 0) : rx = 0 ∧ ¬ b1 = 0 ∧ ¬ b2 = 0 := by
  unfold ckd at h
  by_cases q : rx = 0
  · rw [if_pos q] at h
    by_cases q1 : b1 = 0
    · rw [if_pos q1, h0] at h; exact absurd h (by decide)
    · rw [if_neg q1] at h
      by_cases q2 : b2 = 0
      · rw [if_pos q2, h0] at h; exact absurd h (by decide)
      · exact ⟨q, q1, q2⟩
  · rw [if_neg q, h0] at h; exact absurd h.symm q
/-- a checked statement: b1, b2 say whether it is in range, and has room -/
theorem ck_n {rx b1 b2 rs : Int32} {P1 P2 : Prop} (h : ckd rx b1 b2 rs) (h0 : ¬ rs = 0) (e1 : (b1 = 1 ∧ P1) ∨ (b1 = 0 ∧ ¬ P1)) (e2 : (b2 = 1 ∧ P2) ∨ (b2 = 0 ∧ ¬ P2)) : (¬ rx = 0 ∧ rs = rx) ∨ (rx = 0 ∧ ¬ P1 ∧ rs = 3) ∨ (rx = 0 ∧ P1 ∧ ¬ P2 ∧ rs = 4) := by
  unfold ckd at h
  by_cases q : rx = 0
  · rw [if_pos q] at h
    rcases e1 with ⟨b, p⟩ | ⟨b, p⟩
    · rw [if_neg (by rw [b]; decide)] at h
      rcases e2 with ⟨b', p'⟩ | ⟨b', p'⟩
      · rw [if_neg (by rw [b']; decide)] at h; exact absurd h h0
      · rw [if_pos b'] at h; exact Or.inr (Or.inr ⟨q, p, p', h⟩)
    · rw [if_pos b] at h; exact Or.inr (Or.inl ⟨q, p, h⟩)
  · rw [if_neg q] at h; exact Or.inl ⟨q, h⟩
def GHp (R : Nat × VT) (g : Nat) (rs : Int32) (q : Nat) (fr : Nat → Int32) : Prop := rs = nI R.1 ∧ (R.1 = 0 → q = g ∧ MRV R.2 fr)
theorem gh_n {tx : Nat → Nat} {L p n N o q : Nat} {ty pa pb vo : Nat → Nat} {nm : Int64} {fc fr : Nat → Int32} {two : Bool} {r1 r2 r3 rs6 rs7 b1 b2 : Int32} (hX : TX tx L fc) (hN : N ≤ 30) (hnN : n ≤ N) (hG : GF tx L p two r1 r2 r3 rs6 q) (h7 : ckd rs6 b1 b2 rs7) (e1 : (b1 = 1 ∧ B1 two N r1 r2 r3) ∨ (b1 = 0 ∧ ¬ B1 two N r1 r2 r3)) (e2 : (b2 = 1 ∧ N + 1 ≤ n + 24) ∨ (b2 = 0 ∧ ¬ N + 1 ≤ n + 24)) (h0 : ¬ rs7 = 0) : GHp (gR tx L p (n, N, o, ty, pa, pb, vo, nm)) (gq tx L p) rs7 q fr := by
  unfold gR
  rcases ck_n h7 h0 e1 e2 with ⟨c1, c2⟩ | ⟨c1, c2, c3⟩ | ⟨c1, c2, c3, c4⟩
  · rcases hG with ⟨g1, _⟩ | ⟨g1, g2⟩
    · exact absurd g1 c1
    · rw [if_neg (by rw [g2]; decide)]
      exact ⟨c2.trans g1, fun (z : (2 : Nat) = 0) => absurd z (by decide)⟩
  · rcases hG with ⟨g1, g2, g3, g4, g5, g6, g7⟩ | ⟨g1, g2⟩
    · rw [if_pos g2]
      have hc := mt (B1_c hX hN g3 g4 g5 g6).mpr c2
      unfold tG; dsimp only
      rw [if_neg hc]
      exact ⟨c3, fun (z : (3 : Nat) = 0) => absurd z (by decide)⟩
    · rw [c1] at g1; exact absurd g1 (by decide)
  · rcases hG with ⟨g1, g2, g3, g4, g5, g6, g7⟩ | ⟨g1, g2⟩
    · rw [if_pos g2]
      have hc := (B1_c hX hN g3 g4 g5 g6).mp c2
      unfold tG; dsimp only
      rw [if_pos hc, if_neg c3]
      exact ⟨c4, fun (z : (4 : Nat) = 0) => absurd z (by decide)⟩
    · rw [c1] at g1; exact absurd g1 (by decide)
theorem gh_y {tx : Nat → Nat} {L p n N o q : Nat} {ty pa pb vo : Nat → Nat} {nm : Int64} {fc fr : Nat → Int32} {two : Bool} {r1 r2 r3 rs6 rs7 b1 b2 : Int32} (hX : TX tx L fc) (hN : N ≤ 30) (hnN : n ≤ N) (ho : o ≤ 6) (hM : MR n N o 0 0 ty pa pb vo nm fr) (hG : GF tx L p two r1 r2 r3 rs6 q) (h7 : ckd rs6 b1 b2 rs7) (e1 : B1 two N r1 r2 r3) (e2 : N + 1 ≤ n + 24) (h0 : rs7 = 0) : GHp (gR tx L p (n, N, o, ty, pa, pb, vo, nm)) (gq tx L p) rs7 q (gU fr (N - n) r1 r2 r3) := by
  unfold gR
  have c := (ck_0 h7 h0).1
  rcases hG with ⟨g1, g2, g3, g4, g5, g6, g7⟩ | ⟨g1, g2⟩
  · rw [if_pos g2]
    have hc := (B1_c hX hN g3 g4 g5 g6).mp e1
    unfold tG; dsimp only
    rw [if_pos hc, if_pos e2]
    refine ⟨h0, fun _ => ⟨g7, ?_⟩⟩
    rw [g5]
    refine MR_G hM hnN e2 ho hc.1 hc.2.2.1 (fun z => ?_) g4
    have k3 : gk tx L p = 3 := gk_2.resolve_left (mt hc.2.1.mpr z)
    exact ⟨hc.2.2.2 k3, g6 (g3.symm.trans (gb_3 k3))⟩
  · rw [c] at g1; exact absurd g1 (by decide)
