/-! the text, and the circuit that it tells -/
def ca (tx : Nat → Nat) (L p : Nat) : Nat := if p < L then tx p else 0
def dg (c : Nat) : Bool := decide (48 ≤ c) && decide (c ≤ 57)
def TX (tx : Nat → Nat) (L : Nat) (fc : Nat → Int32) : Prop := L ≤ 200 ∧ ∀ j, j < L → fc j = nI (tx j) ∧ tx j < 128
def cP (tx : Nat → Nat) (L p : Nat) : Nat := if dg (ca tx L p) = true then (if dg (ca tx L (p + 1)) = true then p + 2 else p + 1) else p
def cV (tx : Nat → Nat) (L p : Nat) : Nat := if dg (ca tx L (p + 1)) = true then 10 * (ca tx L p - 48) + (ca tx L (p + 1) - 48) else ca tx L p - 48
theorem ca_lt {tx : Nat → Nat} {L : Nat} {fc : Nat → Int32} (h : TX tx L fc) (p : Nat) : ca tx L p < 128 := by
  unfold ca
  split
  · exact (h.2 p (by assumption)).2
  · decide
theorem ca_e {tx : Nat → Nat} {L : Nat} {fc : Nat → Int32} (h : TX tx L fc) {p k : Nat} {x : Int32} (e : nI (ca tx L p) = x) (hk : k < 128 := by decide) (hx : x = nI k := by rfl) : ca tx L p = k := nI_inj (e.trans hx) (Nat.lt_trans (ca_lt h p) (by decide)) (by omega)
theorem ca_n {tx : Nat → Nat} {L p k : Nat} {x : Int32} (e : ¬ nI (ca tx L p) = x) (hx : x = nI k := by rfl) : ¬ ca tx L p = k := fun q => e (by rw [q, hx])
theorem at_n {tx : Nat → Nat} {L : Nat} {fc : Nat → Int32} (h : TX tx L fc) {p : Nat} (hp : p < 1000) : (if nI p < 0 then 0 else if nI L ≤ nI p then 0 else if nI p < 200 then fc (nI p).toNatClampNeg else 0) = nI (ca tx L p) := by
  have h1 := h.1
  unfold ca
  rw [if_neg (nI_pos (by omega))]
  by_cases q : p < L
  · rw [if_neg (nI_ge q (by omega)), if_pos (show nI p < (200 : Int32) from nI_lt (b := 200) (by omega) (by decide)), if_pos q, nI_clamp (by omega)]
    exact (h.2 p q).1
  · rw [if_pos (nI_le (by omega) (by omega)), if_neg q]; rfl
theorem dg_n {c : Nat} (h : c < 128) : (if nI c < 48 then (0 : Int32) else if 57 < nI c then 0 else 1) = bI (dg c) := by
  unfold dg
  have e48 : nI c < 48 ↔ c < 48 := nI_ltI (b := 48) (by omega) (by decide)
  have e57 : 57 < nI c ↔ 57 < c := nI_ltI (a := 57) (by decide) (by omega)
  by_cases q1 : c < 48
  · rw [if_pos (e48.mpr q1), decide_eq_false (by omega : ¬ 48 ≤ c)]; rfl
  · rw [if_neg (mt e48.mp q1), decide_eq_true (by omega : 48 ≤ c)]
    by_cases q2 : 57 < c
    · rw [if_pos (e57.mpr q2), decide_eq_false (by omega : ¬ c ≤ 57)]; rfl
    · rw [if_neg (mt e57.mp q2), decide_eq_true (by omega : c ≤ 57)]; rfl
theorem dg_t {c : Nat} (h : dg c = true) : 48 ≤ c ∧ c ≤ 57 := by
  unfold dg at h
  rw [Bool.and_eq_true, decide_eq_true_eq, decide_eq_true_eq] at h; exact h
theorem dg_L {tx : Nat → Nat} {L p : Nat} (h : dg (ca tx L p) = true) : p < L := by
  apply Classical.byContradiction
  intro q
  unfold ca at h; rw [if_neg q] at h; cases h
theorem cP_le {tx : Nat → Nat} {L : Nat} {fc : Nat → Int32} (h : TX tx L fc) (p : Nat) : p ≤ cP tx L p ∧ cP tx L p ≤ p + 2 ∧ (dg (ca tx L p) = true → p < cP tx L p ∧ cP tx L p ≤ L) := by
  unfold cP
  split
  · rename_i q
    have := dg_L q
    split
    · rename_i q2
      have := dg_L q2
      exact ⟨by omega, by omega, fun _ => by omega⟩
    · exact ⟨by omega, by omega, fun _ => by omega⟩
  · rename_i q
    exact ⟨by omega, by omega, fun q2 => absurd q2 q⟩
theorem cV_lt {tx : Nat → Nat} {L : Nat} {fc : Nat → Int32} (h : TX tx L fc) (p : Nat) : cV tx L p < 1000 := by
  have h1 := ca_lt h p
  have h2 := ca_lt h (p + 1)
  unfold cV
  split <;> omega
def cNum (tx : Nat → Nat) (L p : Nat) (r : Int32) (q : Nat) : Prop := q = cP tx L p ∧ r = if dg (ca tx L p) = true then nI (cV tx L p) else -1
theorem nI_sb {c : Nat} (h : 48 ≤ c) : nI c - 48 = nI (c - 48) := pk_sub h
theorem cN_2 {tx : Nat → Nat} {L p : Nat} (h1 : dg (ca tx L p) = true) (h2 : dg (ca tx L (p + 1)) = true) : cNum tx L p (10 * (nI (ca tx L p) - 48) + nI (ca tx L (p + 1)) - 48) (p + 2) := by
  have a := dg_t h1
  have b := dg_t h2
  refine ⟨by unfold cP; rw [if_pos h1, if_pos h2], ?_⟩
  rw [if_pos h1]
  unfold cV
  rw [if_pos h2, nI_sb a.1, show (10 : Int32) = nI 10 from rfl, pk_mul, nI_add, nI_sb (by omega)]
  congr 1; omega
theorem cN_1 {tx : Nat → Nat} {L p : Nat} (h1 : dg (ca tx L p) = true) (h2 : dg (ca tx L (p + 1)) = false) : cNum tx L p (nI (ca tx L p) - 48) (p + 1) := by
  have a := dg_t h1
  have h3 : ¬ dg (ca tx L (p + 1)) = true := by rw [h2]; decide
  refine ⟨by unfold cP; rw [if_pos h1, if_neg h3], ?_⟩
  rw [if_pos h1]
  unfold cV
  rw [if_neg h3, nI_sb a.1]
theorem cN_0 {tx : Nat → Nat} {L p : Nat} (h1 : dg (ca tx L p) = false) : cNum tx L p (-1) p := by
  have h3 : ¬ dg (ca tx L p) = true := by rw [h1]; decide
  exact ⟨by unfold cP; rw [if_neg h3], by rw [if_neg h3]⟩
theorem nr_n {tx : Nat → Nat} {L p q : Nat} {r : Int32} {fc : Nat → Int32} (hX : TX tx L fc) (h : cNum tx L p r q) (e : r = -1) : dg (ca tx L p) = false := by
  cases hd : dg (ca tx L p)
  · rfl
  · have h2 := h.2
    rw [if_pos hd, e] at h2
    exact absurd (show nI (cV tx L p) < 0 by rw [← h2]; decide) (nI_pos (by have := cV_lt hX p; omega))
theorem nr_y {tx : Nat → Nat} {L p q : Nat} {r : Int32} (h : cNum tx L p r q) (e : ¬ r = -1) : dg (ca tx L p) = true ∧ r = nI (cV tx L p) := by
  have h2 := h.2
  cases hd : dg (ca tx L p)
  · rw [if_neg (by rw [hd]; decide)] at h2; exact absurd h2 e
  · rw [if_pos hd] at h2; exact ⟨rfl, h2⟩
def s1 (tx : Nat → Nat) (L p : Nat) : Bool := dg (ca tx L p) && decide (ca tx L (cP tx L p) = 59)
def ga (tx : Nat → Nat) (L p : Nat) : Bool := (dg (ca tx L p) && decide (ca tx L (cP tx L p) = 44)) && (dg (ca tx L (cP tx L p + 1)) && decide (ca tx L (cP tx L (cP tx L p + 1)) = 59))
def gb (tx : Nat → Nat) (L p : Nat) : Bool := ((dg (ca tx L p) && decide (ca tx L (cP tx L p) = 44)) && (dg (ca tx L (cP tx L p + 1)) && decide (ca tx L (cP tx L (cP tx L p + 1)) = 44))) && (dg (ca tx L (cP tx L (cP tx L p + 1) + 1)) && decide (ca tx L (cP tx L (cP tx L (cP tx L p + 1) + 1)) = 59))
def gk (tx : Nat → Nat) (L p : Nat) : Nat := if gb tx L p = true then 3 else 2
def gq (tx : Nat → Nat) (L p : Nat) : Nat := if gb tx L p = true then cP tx L (cP tx L (cP tx L p + 1) + 1) + 1 else cP tx L (cP tx L p + 1) + 1
def N1 (tx : Nat → Nat) (L p : Nat) (r k : Int32) (q : Nat) (f : Nat → Int32) : Prop := (s1 tx L p = true ∧ r = 1 ∧ k = 1 ∧ q = cP tx L p + 1 ∧ f 0 = nI (cV tx L p)) ∨ (s1 tx L p = false ∧ r = 0)
def N3 (tx : Nat → Nat) (L p : Nat) (r k : Int32) (q : Nat) (f : Nat → Int32) : Prop := ((ga tx L p || gb tx L p) = true ∧ r = 1 ∧ k = nI (gk tx L p) ∧ q = gq tx L p ∧ f 0 = nI (cV tx L p) ∧ f 1 = nI (cV tx L (cP tx L p + 1)) ∧ (gb tx L p = true → f 2 = nI (cV tx L (cP tx L (cP tx L p + 1) + 1)))) ∨ ((ga tx L p || gb tx L p) = false ∧ (r = 0 ∨ k = 1))
theorem n1_y {tx : Nat → Nat} {L p : Nat} {r k : Int32} {q : Nat} {f : Nat → Int32} (h : N1 tx L p r k q f) (hr : ¬ r = 0) : s1 tx L p = true ∧ r = 1 ∧ k = 1 ∧ q = cP tx L p + 1 ∧ f 0 = nI (cV tx L p) := h.elim id (fun z => absurd z.2 hr)
theorem n3_y {tx : Nat → Nat} {L p : Nat} {r k : Int32} {q : Nat} {f : Nat → Int32} (h : N3 tx L p r k q f) (hr : ¬ r = 0) (hk : (2 : Int32) ≤ k) : (ga tx L p || gb tx L p) = true ∧ r = 1 ∧ k = nI (gk tx L p) ∧ q = gq tx L p ∧ f 0 = nI (cV tx L p) ∧ f 1 = nI (cV tx L (cP tx L p + 1)) ∧ (gb tx L p = true → f 2 = nI (cV tx L (cP tx L (cP tx L p + 1) + 1))) := h.elim id (fun z => z.2.elim (fun e => absurd e hr) (fun e => absurd hk (by rw [e]; decide)))
theorem n1_n {tx : Nat → Nat} {L p : Nat} {r k : Int32} {q : Nat} {f : Nat → Int32} (h : N1 tx L p r k q f) (hr : r = 0) : s1 tx L p = false := h.elim (fun z => absurd (z.2.1.symm.trans hr) (by decide)) (fun z => z.1)
theorem n3_n {tx : Nat → Nat} {L p : Nat} {r k : Int32} {q : Nat} {f : Nat → Int32} (h : N3 tx L p r k q f) (hr : r = 0) : (ga tx L p || gb tx L p) = false := h.elim (fun z => absurd (z.2.1.symm.trans hr) (by decide)) (fun z => z.1)
theorem gk_2 {tx : Nat → Nat} {L p : Nat} : gk tx L p = 2 ∨ gk tx L p = 3 := by unfold gk; split <;> simp
theorem n3_k {tx : Nat → Nat} {L p : Nat} {r k : Int32} {q : Nat} {f : Nat → Int32} (h : N3 tx L p r k q f) (hk : ¬ (2 : Int32) ≤ k) : (ga tx L p || gb tx L p) = false := by
  rcases h with z | z
  · exact absurd (by rw [z.2.2.1]; rcases gk_2 (tx := tx) (L := L) (p := p) with e | e <;> rw [e] <;> decide) hk
  · exact z.1
/-- a circuit as the text tells it: inputs, nodes, outputs, types, operands, output nodes, normal words -/
abbrev VT : Type := Nat × Nat × Nat × (Nat → Nat) × (Nat → Nat) × (Nat → Nat) × (Nat → Nat) × Int64
def zf : Nat → Nat := fun _ => 0
def upN (f : Nat → Nat) (i v : Nat) : Nat → Nat := fun j => if j = i then v else f j
theorem up_s {f : Nat → Nat} {i v : Nat} : upN f i v i = v := by unfold upN; rw [if_pos rfl]
theorem up_n {f : Nat → Nat} {i v j : Nat} (h : ¬ j = i) : upN f i v j = f j := by unfold upN; rw [if_neg h]
def bt (v : Nat) : Int64 := (1 : Int64) <<< ((nI v).toInt64 &&& 63)
def tI (v : Nat) (V : VT) : Nat × VT := if 1 ≤ v ∧ v ≤ 6 then (0, (v, v, 0, zf, zf, zf, zf, 0)) else (3, V)
def tO (v : Nat) : VT → Nat × VT
  | (n, N, o, ty, pa, pb, vo, nm) => if v < N then (if o < 6 then (0, (n, N, o + 1, ty, pa, pb, upN vo o v, nm)) else (4, (n, N, o, ty, pa, pb, vo, nm))) else (3, (n, N, o, ty, pa, pb, vo, nm))
def tW (v : Nat) : VT → Nat × VT
  | (n, N, o, ty, pa, pb, vo, nm) => if v < 2 ^ n then (0, (n, N, o, ty, pa, pb, vo, nm ||| bt v)) else (3, (n, N, o, ty, pa, pb, vo, nm))
def tG (k t a b : Nat) : VT → Nat × VT
  | (n, N, o, ty, pa, pb, vo, nm) => if t ≤ 5 ∧ (t = 5 ↔ k = 2) ∧ a < N ∧ (k = 3 → b < N) then (if N + 1 ≤ n + 24 then (0, (n, N + 1, o, upN ty N t, upN pa N a, upN pb N (if t = 5 then a else b), vo, nm)) else (4, (n, N, o, ty, pa, pb, vo, nm))) else (3, (n, N, o, ty, pa, pb, vo, nm))
/-- the class's circuit cells hold a circuit -/
def CR (n N o : Nat) (ty pa pb vo : Nat → Nat) (nm : Int64) (ft fa fb fo : Nat → Int32) : Prop := (n ≤ 6 ∧ n ≤ N ∧ N ≤ n + 24 ∧ o ≤ 6) ∧ (∀ j, j < n → ft j = 6) ∧ Gok n N ty pa pb ft fa fb ∧ Ook N o vo fo ∧ ∀ w, 2 ^ n ≤ w → lb nm w = false
def CRV (V : VT) (n N o : Nat) (nm : Int64) (ft fa fb fo : Nat → Int32) : Prop := ∃ ty pa pb vo, V = (n, N, o, ty, pa, pb, vo, nm) ∧ CR n N o ty pa pb vo nm ft fa fb fo
theorem CR_I {v : Nat} {ft fa fb fo : Nat → Int32} (hv : v ≤ 6) (hf : ∀ j, j < v → ft j = 6) : CR v v 0 zf zf zf zf 0 ft fa fb fo :=
  ⟨⟨hv, Nat.le_refl _, by omega, by omega⟩, hf, fun j h1 h2 => absurd h1 (by omega), fun k hk => absurd hk (by omega), fun w _ => lb_0 w⟩
theorem CR_O {n N o : Nat} {ty pa pb vo : Nat → Nat} {nm : Int64} {ft fa fb fo : Nat → Int32} {v : Nat} (h : CR n N o ty pa pb vo nm ft fa fb fo) (hv : v < N) (ho : o < 6) : CR n N (o + 1) ty pa pb (upN vo o v) nm ft fa fb (upd fo o (nI v)) := by
  refine ⟨⟨h.1.1, h.1.2.1, h.1.2.2.1, by omega⟩, h.2.1, h.2.2.1, fun k hk => ?_, h.2.2.2.2⟩
  by_cases e : k = o
  · subst e; rw [pk_us, up_s]; exact ⟨rfl, hv⟩
  · rw [pk_un e, up_n e]; exact h.2.2.2.1 k (by omega)
theorem lb_bt {v w : Nat} (hv : v < 64) : lb (bt v) w = decide (w = v) := by
  unfold bt
  by_cases hw : w < 64
  · exact lb_shl1 hv hw
  · rw [lb_big _ (by omega), decide_eq_false (by omega)]
theorem CR_W {n N o : Nat} {ty pa pb vo : Nat → Nat} {nm : Int64} {ft fa fb fo : Nat → Int32} {v : Nat} (h : CR n N o ty pa pb vo nm ft fa fb fo) (hv : v < 2 ^ n) : CR n N o ty pa pb vo (nm ||| bt v) ft fa fb fo := by
  refine ⟨h.1, h.2.1, h.2.2.1, h.2.2.2.1, fun w hw => ?_⟩
  rw [lb_or, h.2.2.2.2 w hw, lb_bt (pw_64 h.1.1 hv), decide_eq_false (by omega)]; rfl
theorem CR_G {n N o : Nat} {ty pa pb vo : Nat → Nat} {nm : Int64} {ft fa fb fo : Nat → Int32} {t a b : Nat} {y x : Int32} (h : CR n N o ty pa pb vo nm ft fa fb fo) (ht : t ≤ 5) (ha : a < N) (hb : ¬ t = 5 → b < N ∧ x = nI b) (hr : N + 1 ≤ n + 24) (hy : y = nI t) : CR n (N + 1) o (upN ty N t) (upN pa N a) (upN pb N (if t = 5 then a else b)) vo nm (upd ft N y) (upd fa N (nI a)) (upd fb N (if y = 5 then nI a else x)) fo := by
  obtain ⟨⟨h1, h2, h3, h4⟩, h5, h6, h7, h8⟩ := h
  subst hy
  refine ⟨⟨h1, by omega, hr, h4⟩, fun j hj => by rw [pk_un (by omega)]; exact h5 j hj, fun j hj hj2 => ?_, fun k hk => ⟨(h7 k hk).1, by have := (h7 k hk).2; omega⟩, h8⟩
  by_cases e : j = N
  · subst e
    rw [pk_us, pk_us, pk_us, up_s, up_s, up_s]
    by_cases e5 : t = 5
    · subst e5; exact ⟨rfl, by omega, rfl, ha, rfl, ha⟩
    · obtain ⟨hb1, hb2⟩ := hb e5
      have e6 : ¬ nI t = 5 := fun q => e5 (nI_inj (b := 5) q (by omega) (by decide))
      rw [if_neg e5, if_neg e6]
      exact ⟨rfl, ht, rfl, ha, hb2, hb1⟩
  · rw [pk_un e, pk_un e, pk_un e, up_n e, up_n e, up_n e]
    exact h6 j hj (by omega)
def mb0 (c : Nat) : Bool := (decide (c = 103) || decide (c = 111)) || decide (c = 119)
theorem mb_0 {c : Nat} (h : c < 128) : (if (0 : Int32) = 0 then (if nI c = 103 then (1 : Int32) else if nI c = 111 then 1 else if nI c = 119 then 1 else 0) else if nI c = 105 then 1 else 0) = bI (mb0 c) := by
  unfold mb0
  have e : ∀ k, k < 128 → (nI c = nI k ↔ c = k) := fun k hk => ⟨fun q => nI_inj q (by omega) (by omega), fun q => by rw [q]⟩
  have e1 : nI c = 103 ↔ c = 103 := e 103 (by decide)
  have e2 : nI c = 111 ↔ c = 111 := e 111 (by decide)
  have e3 : nI c = 119 ↔ c = 119 := e 119 (by decide)
  rw [if_pos rfl]
  by_cases q1 : c = 103
  · subst q1; rfl
  · rw [if_neg (mt e1.mp q1), decide_eq_false q1]
    by_cases q2 : c = 111
    · subst q2; rfl
    · rw [if_neg (mt e2.mp q2), decide_eq_false q2]
      by_cases q3 : c = 119
      · subst q3; rfl
      · rw [if_neg (mt e3.mp q3), decide_eq_false q3]; rfl
theorem mb_1 {c : Nat} (h : c < 128) : (if (1 : Int32) = 0 then (if nI c = 103 then (1 : Int32) else if nI c = 111 then 1 else if nI c = 119 then 1 else 0) else if nI c = 105 then 1 else 0) = bI (decide (c = 105)) := by
  rw [if_neg (by decide)]
  by_cases q : c = 105
  · subst q; rfl
  · rw [if_neg (show ¬ nI c = (105 : Int32) from fun z => q (nI_inj (b := 105) z (by omega) (by decide))), decide_eq_false q]; rfl
def mb (c p : Nat) : Bool := if p = 0 then decide (c = 105) else mb0 c
/-- a statement: its fault (0: none), the place behind it, the circuit then -/
def pS (tx : Nat → Nat) (L p : Nat) (V : VT) : Nat × Nat × VT :=
  if mb (ca tx L p) p = true then
    (if ca tx L p = 103 then
      (if (ga tx L (p + 1) || gb tx L (p + 1)) = true then ((tG (gk tx L (p + 1)) (cV tx L (p + 1)) (cV tx L (cP tx L (p + 1) + 1)) (cV tx L (cP tx L (cP tx L (p + 1) + 1) + 1)) V).1, gq tx L (p + 1), (tG (gk tx L (p + 1)) (cV tx L (p + 1)) (cV tx L (cP tx L (p + 1) + 1)) (cV tx L (cP tx L (cP tx L (p + 1) + 1) + 1)) V).2) else (2, 0, V))
    else if s1 tx L (p + 1) = true then
      (if ca tx L p = 105 then ((tI (cV tx L (p + 1)) V).1, cP tx L (p + 1) + 1, (tI (cV tx L (p + 1)) V).2)
      else if ca tx L p = 111 then ((tO (cV tx L (p + 1)) V).1, cP tx L (p + 1) + 1, (tO (cV tx L (p + 1)) V).2)
      else ((tW (cV tx L (p + 1)) V).1, cP tx L (p + 1) + 1, (tW (cV tx L (p + 1)) V).2))
    else (2, 0, V))
  else (1, 0, V)
def RS (R : Nat × Nat × VT) (r : Int32) (q n N o : Nat) (nm : Int64) (ft fa fb fo : Nat → Int32) : Prop := r = nI R.1 ∧ (R.1 = 0 → q = R.2.1) ∧ CRV R.2.2 n N o nm ft fa fb fo
def tP (R : Nat × VT) (r : Int32) (n N o : Nat) (nm : Int64) (ft fa fb fo : Nat → Int32) : Prop := r = nI R.1 ∧ CRV R.2 n N o nm ft fa fb fo
