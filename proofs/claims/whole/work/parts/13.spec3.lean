theorem hk_6 {P : Nat → Prop} (h0 : P 0) (h1 : P 1) (h2 : P 2) (h3 : P 3) (h4 : P 4) (h5 : P 5) : ∀ k, k < 6 → P k := by
  intro k hk
  rcases (show k = 0 ∨ k = 1 ∨ k = 2 ∨ k = 3 ∨ k = 4 ∨ k = 5 by omega) with rfl | rfl | rfl | rfl | rfl | rfl <;> assumption
theorem hk_iic {r : Int64} {cd o wt x : Nat} {oc : Nat → Int64} (ho : o ≤ 6) (h : ∀ w, w < 64 → lb r w = ic cd o wt (fun k => lb (oc k) w)) (hoc : ∀ k, k < 6 → oc k = bL (ib (nI x) k)) : (¬ r = 0 → ic cd o wt (fun k => x.testBit k) = true) ∧ (r = 0 → ic cd o wt (fun k => x.testBit k) = false) := by
  have e : ∀ w, w < 64 → lb r w = ic cd o wt (fun k => x.testBit k) := fun w hw => (h w hw).trans (ic_cong fun k hk => by rw [hoc k (by omega), lb_bL _ hw, ib_nI (by omega)])
  refine ⟨fun q => ?_, fun q => ?_⟩
  · obtain ⟨w, hw, h1⟩ := lb_ne0.mp q
    rw [← e w hw]; exact h1
  · rw [← e 0 (by decide), q, lb_0]
def nO (nm : Int64) (W : Nat → Nat) (y : Nat) : Nat → Bool
  | 0 => false
  | i + 1 => nO nm W y i || (lb nm i && decide (W i = y))
def anB (P : Nat → Bool) : Nat → Bool
  | 0 => false
  | k + 1 => anB P k || P k
theorem anB_iff (P : Nat → Bool) : ∀ k, anB P k = true ↔ ∃ i, i < k ∧ P i = true
  | 0 => ⟨fun h => absurd (show false = true from h) (by decide), fun ⟨i, hi, _⟩ => absurd hi (Nat.not_lt_zero i)⟩
  | k + 1 => by
    show (anB P k || P k) = true ↔ _
    rw [Bool.or_eq_true, anB_iff P k]
    constructor
    · rintro (⟨i, hi, h⟩ | h)
      · exact ⟨i, by omega, h⟩
      · exact ⟨k, by omega, h⟩
    · rintro ⟨i, hi, h⟩
      rcases Nat.lt_succ_iff_lt_or_eq.mp hi with q | q
      · exact Or.inl ⟨i, q, h⟩
      · exact Or.inr (q ▸ h)
/-- the place of the greatest number, the least of several, or -104 if all are 0 -/
def isB (c : Nat → Nat) (n : Nat) (r : Int32) : Prop := (∃ w, w < n ∧ 0 < c w ∧ (∀ v, v < n → c v ≤ c w) ∧ (∀ v, v < w → c v < c w) ∧ r = nI w) ∨ ((∀ v, v < n → c v = 0) ∧ r = -104)
def jB (c : Nat → Nat) (i : Nat) (b : Int32) (m : Nat) : Prop := (b = -104 ∧ m = 0 ∧ ∀ v, v < i → c v = 0) ∨ (∃ w, w < i ∧ b = nI w ∧ c w = m ∧ 0 < m ∧ (∀ v, v < i → c v ≤ m) ∧ ∀ v, v < w → c v < m)
theorem jB_0 (c : Nat → Nat) : jB c 0 (-104) 0 := Or.inl ⟨rfl, rfl, fun v h => absurd h (Nat.not_lt_zero v)⟩
theorem jB_up {c : Nat → Nat} {i m : Nat} {b : Int32} (h : jB c i b m) (q : m < c i) : jB c (i + 1) (nI i) (c i) := by
  refine Or.inr ⟨i, by omega, rfl, rfl, by omega, fun v hv => ?_, fun v hv => ?_⟩
  · rcases Nat.lt_succ_iff_lt_or_eq.mp hv with hv | rfl
    · rcases h with ⟨-, -, h⟩ | ⟨w, -, -, -, -, h, -⟩
      · rw [h v hv]; omega
      · have := h v hv; omega
    · exact Nat.le_refl _
  · rcases h with ⟨-, -, h⟩ | ⟨w, -, -, -, -, h, -⟩
    · rw [h v hv]; omega
    · have := h v hv; omega
theorem jB_st {c : Nat → Nat} {i m : Nat} {b : Int32} (h : jB c i b m) (q : c i ≤ m) : jB c (i + 1) b m := by
  rcases h with ⟨h1, h2, h3⟩ | ⟨w, h1, h2, h3, h4, h5, h6⟩
  · refine Or.inl ⟨h1, h2, fun v hv => ?_⟩
    rcases Nat.lt_succ_iff_lt_or_eq.mp hv with hv | rfl
    · exact h3 v hv
    · omega
  · refine Or.inr ⟨w, by omega, h2, h3, h4, fun v hv => ?_, h6⟩
    rcases Nat.lt_succ_iff_lt_or_eq.mp hv with hv | rfl
    · exact h5 v hv
    · exact q
theorem jB_end {c : Nat → Nat} {n m : Nat} {b : Int32} (h : jB c n b m) : isB c n b := by
  rcases h with ⟨h1, h2, h3⟩ | ⟨w, h1, h2, h3, h4, h5, h6⟩
  · exact Or.inr ⟨h3, h1⟩
  · exact Or.inl ⟨w, h1, by omega, fun v hv => by rw [h3]; exact h5 v hv, fun v hv => by rw [h3]; exact h6 v hv, h2⟩
theorem jB_le {c : Nat → Nat} {i m : Nat} {b : Int32} (h : jB c i b m) (hc : ∀ v, c v ≤ 64) : m ≤ 64 := by
  rcases h with ⟨h1, h2, h3⟩ | ⟨w, h1, h2, h3, h4, h5, h6⟩
  · omega
  · rw [← h3]; exact hc w
theorem isB_one {c c' : Nat → Nat} {n n' : Nat} {r r' : Int32} (h : isB c n r) (h' : isB c' n' r') (e : ∀ k, k < n → c k = c' k) (hn : n ≤ n') (ho : ∀ k, n ≤ k → k < n' → c' k = 0) : r = r' := by
  rcases h with ⟨w, h1, h2, h3, h4, rfl⟩ | ⟨h1, rfl⟩ <;> rcases h' with ⟨w', g1, g2, g3, g4, rfl⟩ | ⟨g1, rfl⟩
  · have hw' : w' < n := by
      rcases Nat.lt_or_ge w' n with q | q
      · exact q
      · rw [ho w' q g1] at g2; omega
    have a1 := h3 w' hw'
    have a2 := g3 w (by omega)
    rw [e w' hw'] at a1
    rw [← e w h1] at a2
    rcases Nat.lt_trichotomy w w' with q | q | q
    · have := g4 w q; rw [← e w h1] at this; omega
    · rw [q]
    · have := h4 w' q; rw [e w' hw'] at this; omega
  · have := g1 w (by omega); rw [← e w h1] at this; omega
  · rcases Nat.lt_or_ge w' n with q | q
    · have := h1 w' q; rw [e w' q] at this; omega
    · rw [ho w' q g1] at g2; omega
  · rfl
def cO (ef : Nat → Int64) (op : Int64) (w : Nat) : Nat := ct (lb (ef w &&& op)) 64
theorem cO_le (ef : Nat → Int64) (op : Int64) (w : Nat) : cO ef op w ≤ 64 := ct_le _ 64
def GR (ef : Nat → Int64) : Nat → Int64 → Int32 → Prop
  | 0, op, r => isB (cO ef op) 64 r
  | k + 1, op, r => (∃ w, w < 64 ∧ isB (cO ef op) 64 (nI w) ∧ GR ef k (op &&& (ef w ^^^ (-1))) r) ∨ (isB (cO ef op) 64 (-104) ∧ r = -104)
theorem ct_pos {P : Nat → Bool} : ∀ {k : Nat}, 0 < ct P k ↔ ∃ i, i < k ∧ P i = true
  | 0 => ⟨fun h => absurd h (Nat.lt_irrefl 0), fun ⟨i, hi, _⟩ => absurd hi (Nat.not_lt_zero i)⟩
  | k + 1 => by
    show 0 < ct P k + (if P k then 1 else 0) ↔ _
    constructor
    · intro h
      by_cases q : P k = true
      · exact ⟨k, by omega, q⟩
      · rw [if_neg q] at h
        obtain ⟨i, hi, h1⟩ := ct_pos.mp h
        exact ⟨i, by omega, h1⟩
    · rintro ⟨i, hi, h1⟩
      rcases Nat.lt_succ_iff_lt_or_eq.mp hi with q | q
      · have := ct_pos.mpr ⟨i, q, h1⟩; omega
      · subst q; rw [if_pos h1]; omega
theorem ct_mono {P Q : Nat → Bool} : ∀ {k : Nat}, (∀ i, i < k → P i = true → Q i = true) → ct P k ≤ ct Q k
  | 0, _ => Nat.le_refl _
  | k + 1, h => by
    have h1 := ct_mono (fun i hi => h i (by omega)) (k := k)
    show ct P k + (if P k then 1 else 0) ≤ ct Q k + (if Q k then 1 else 0)
    by_cases q : P k = true
    · rw [if_pos q, if_pos (h k (by omega) q)]; omega
    · rw [if_neg q]; omega
theorem ct_lt {P Q : Nat → Bool} : ∀ {k : Nat}, (∀ i, i < k → P i = true → Q i = true) → (∃ i, i < k ∧ Q i = true ∧ P i = false) → ct P k < ct Q k
  | 0, _, ⟨i, hi, _⟩ => absurd hi (Nat.not_lt_zero i)
  | k + 1, h, ⟨i, hi, h1, h2⟩ => by
    show ct P k + (if P k then 1 else 0) < ct Q k + (if Q k then 1 else 0)
    rcases Nat.lt_succ_iff_lt_or_eq.mp hi with q | q
    · have := ct_lt (fun j hj => h j (by omega)) ⟨i, q, h1, h2⟩ (k := k)
      by_cases q : P k = true
      · rw [if_pos q, if_pos (h k (by omega) q)]; omega
      · rw [if_neg q]; omega
    · subst q
      have := ct_mono (fun j hj => h j (by omega)) (k := i) (P := P) (Q := Q)
      rw [if_pos h1, if_neg (by rw [h2]; decide)]; omega
theorem GR_0 {ef : Nat → Int64} {op : Int64} (h : op = 0) : ∀ k, GR ef k op (-104) := by
  have h0 : isB (cO ef op) 64 (-104) := Or.inr ⟨fun v _ => by
    unfold cO
    apply Nat.eq_zero_of_not_pos
    intro q
    obtain ⟨i, -, h1⟩ := ct_pos.mp q
    rw [h, lb_and, lb_0] at h1
    simp at h1, rfl⟩
  intro k
  cases k with
  | zero => exact h0
  | succ k => exact Or.inr ⟨h0, rfl⟩
theorem op_lt {ef : Nat → Int64} {op : Int64} {w : Nat} (h : 0 < cO ef op w) : ct (lb (op &&& (ef w ^^^ (-1)))) 64 < ct (lb op) 64 := by
  obtain ⟨i, hi, h1⟩ := ct_pos.mp h
  rw [lb_and, Bool.and_eq_true] at h1
  refine ct_lt (fun j hj q => ?_) ⟨i, hi, h1.2, ?_⟩
  · rw [lb_and, Bool.and_eq_true] at q; exact q.1
  · rw [lb_and, lb_not _ hi, h1.1]; simp
/-! Long.bitCount, step by step -/
theorem bc1 {X : Nat} (hX : X < 2 ^ 64) : lN X - (((lN X).toUInt64 >>> ((1 : Int32).toInt64.toUInt64 &&& Int64.toUInt64 63)).toInt64 &&& (6148914691236517205 : Int64)) = lN (pq_t1 8 X) := by
  have e := wb_shr (k := 1) hX (by decide)
  have e2 : ((lN X).toUInt64 >>> ((1 : Int32).toInt64.toUInt64 &&& Int64.toUInt64 63)).toInt64 = lN (X / 2) := e
  rw [e2, show (6148914691236517205 : Int64) = lN (pq_mk8 85 8) by decide, wb_and (by omega) (by decide)]
  exact lN_sub (Nat.le_trans Nat.and_le_left (Nat.div_le_self _ _))
theorem bc2 {X : Nat} (hX : X < 2 ^ 64) : (lN X &&& (3689348814741910323 : Int64)) + (((lN X).toUInt64 >>> ((2 : Int32).toInt64.toUInt64 &&& Int64.toUInt64 63)).toInt64 &&& (3689348814741910323 : Int64)) = lN (pq_t2 8 X) := by
  have e2 : ((lN X).toUInt64 >>> ((2 : Int32).toInt64.toUInt64 &&& Int64.toUInt64 63)).toInt64 = lN (X / 4) := wb_shr (k := 2) hX (by decide)
  rw [e2, show (3689348814741910323 : Int64) = lN (pq_mk8 51 8) by decide, wb_and hX (by decide), wb_and (show X / 4 < 2 ^ 64 by omega) (by decide)]
  exact lN_add _ _
theorem bc3 {X : Nat} (hX : X + X / 16 < 2 ^ 64) : (lN X + ((lN X).toUInt64 >>> ((4 : Int32).toInt64.toUInt64 &&& Int64.toUInt64 63)).toInt64) &&& (1085102592571150095 : Int64) = lN (pq_t3 8 X) := by
  have e2 : ((lN X).toUInt64 >>> ((4 : Int32).toInt64.toUInt64 &&& Int64.toUInt64 63)).toInt64 = lN (X / 16) := wb_shr (k := 4) (by omega) (by decide)
  rw [e2, show (1085102592571150095 : Int64) = lN (pq_mk8 15 8) by decide, lN_add, wb_and (by omega) (by decide)]
  rfl
theorem bc4 {X : Nat} (hX : X < 2 ^ 64) : lN X + ((lN X).toUInt64 >>> ((8 : Int32).toInt64.toUInt64 &&& Int64.toUInt64 63)).toInt64 = lN (pq_f4 X) := by
  have e2 : ((lN X).toUInt64 >>> ((8 : Int32).toInt64.toUInt64 &&& Int64.toUInt64 63)).toInt64 = lN (X / 256) := wb_shr (k := 8) hX (by decide)
  rw [e2]; exact lN_add _ _
theorem bc5 {X : Nat} (hX : pq_f4 X < 2 ^ 64) : lN (pq_f4 X) + ((lN (pq_f4 X)).toUInt64 >>> ((16 : Int32).toInt64.toUInt64 &&& Int64.toUInt64 63)).toInt64 = lN (pq_f5 X) := by
  have e2 : ((lN (pq_f4 X)).toUInt64 >>> ((16 : Int32).toInt64.toUInt64 &&& Int64.toUInt64 63)).toInt64 = lN (pq_f4 X / 65536) := wb_shr (k := 16) hX (by decide)
  rw [e2]; exact lN_add _ _
theorem bc6 {X : Nat} (hX : pq_f5 X < 2 ^ 64) : lN (pq_f5 X) + ((lN (pq_f5 X)).toUInt64 >>> ((32 : Int32).toInt64.toUInt64 &&& Int64.toUInt64 63)).toInt64 = lN (pq_f6 X) := by
  have e2 : ((lN (pq_f5 X)).toUInt64 >>> ((32 : Int32).toInt64.toUInt64 &&& Int64.toUInt64 63)).toInt64 = lN (pq_f5 X / 4294967296) := wb_shr (k := 32) hX (by decide)
  rw [e2]; exact lN_add _ _
theorem bc7 (Z : Nat) : (lN Z).toInt32 &&& (127 : Int32) = nI (Z % 128) := by
  rw [lN_i, pk_and (nI Z) 7 (by decide)]
  congr 1
  show (BitVec.ofNat 32 Z).toNat % 2 ^ 7 = _
  rw [BitVec.toNat_ofNat]
  omega
theorem bc_t1 {X : Nat} (hX : X < 2 ^ 64) : pq_t1 8 X < 2 ^ 64 := Nat.lt_of_le_of_lt (Nat.sub_le _ _) hX
theorem bc_t2 (X : Nat) : pq_t2 8 X ≤ 7378697629483820646 := by
  have h1 : (X &&& pq_mk8 51 8) ≤ pq_mk8 51 8 := Nat.and_le_right
  have h2 : (X / 4 &&& pq_mk8 51 8) ≤ pq_mk8 51 8 := Nat.and_le_right
  have h3 : pq_mk8 51 8 = 3689348814741910323 := by decide
  unfold pq_t2
  omega
theorem bc_t3 (X : Nat) : pq_t3 8 X ≤ 1085102592571150095 := by
  have h1 : ((X + X / 16) &&& pq_mk8 15 8) ≤ pq_mk8 15 8 := Nat.and_le_right
  have h3 : pq_mk8 15 8 = 1085102592571150095 := by decide
  unfold pq_t3
  omega
theorem bc_ct {X : Nat} : ct (fun i => X.testBit i) 64 = ct (lb (lN X)) 64 := by
  apply ct_cong
  intro i hi
  show _ = (BitVec.ofNat 64 X).getLsbD i
  rw [BitVec.getLsbD_ofNat]; simp [hi]
theorem nI_inj {a b : Nat} (h : nI a = nI b) (ha : a < 2 ^ 31) (hb : b < 2 ^ 31) : a = b := (nI_eq ha hb).mp h
