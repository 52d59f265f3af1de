/-! x & (x - 1): the lowest one goes -/
theorem low_n {X : Nat} (h : 0 < X) : ∃ i, X.testBit i = true ∧ ∀ j, (X &&& (X - 1)).testBit j = (X.testBit j && decide (¬ j = i)) := by
  have hex : ∃ i, X.testBit i = true := by
    apply Classical.byContradiction
    intro hn
    have : X = 0 := Nat.eq_of_testBit_eq fun i => by
      rw [Nat.zero_testBit]
      cases hb : X.testBit i
      · rfl
      · exact absurd ⟨i, hb⟩ hn
    omega
  obtain ⟨i, hi, hl⟩ := pk_least (fun i => X.testBit i = true) hex
  refine ⟨i, hi, fun j => ?_⟩
  have hm : X % 2 ^ (i + 1) = 2 ^ i := by
    apply Nat.eq_of_testBit_eq
    intro k
    rw [Nat.testBit_mod_two_pow, Nat.testBit_two_pow]
    rcases Nat.lt_trichotomy k i with q | q | q
    · have : X.testBit k = false := by
        cases hb : X.testBit k
        · rfl
        · exact absurd hb (hl k q)
      rw [this]; simp [show ¬ i = k by omega]
    · subst q; rw [hi]; simp
    · simp [show ¬ k < i + 1 by omega, show ¬ i = k by omega]
  have hp : 0 < 2 ^ i := Nat.two_pow_pos i
  have hs : 2 ^ (i + 1) = 2 * 2 ^ i := by rw [Nat.pow_succ, Nat.mul_comm]
  have e1 : X = 2 ^ (i + 1) * (X / 2 ^ (i + 1)) + 2 ^ i := by
    have := Nat.div_add_mod X (2 ^ (i + 1))
    omega
  have e2 : X - 1 = 2 ^ (i + 1) * (X / 2 ^ (i + 1)) + (2 ^ i - 1) := by omega
  rw [Nat.testBit_and]
  have t1 : X.testBit j = if j < i + 1 then (2 ^ i).testBit j else (X / 2 ^ (i + 1)).testBit (j - (i + 1)) := by
    conv => lhs; rw [e1]
    exact Nat.testBit_two_pow_mul_add _ (by omega) j
  have t2 : (X - 1).testBit j = if j < i + 1 then (2 ^ i - 1).testBit j else (X / 2 ^ (i + 1)).testBit (j - (i + 1)) := by
    rw [e2]
    exact Nat.testBit_two_pow_mul_add _ (by omega) j
  rcases Nat.lt_trichotomy j i with q | q | q
  · have : X.testBit j = false := by
      cases hb : X.testBit j
      · rfl
      · exact absurd hb (hl j q)
    rw [this]; rfl
  · subst q
    rw [t2, if_pos (by omega), Nat.testBit_lt_two_pow (show 2 ^ j - 1 < 2 ^ j by omega)]; simp
  · rw [t1, t2, if_neg (by omega), if_neg (by omega), decide_eq_true (show ¬ j = i by omega)]; simp
theorem ct_off {Q R : Nat → Bool} {i : Nat} (hi : Q i = true) : ∀ {k : Nat}, i < k → (∀ j, j < k → R j = (Q j && decide (¬ j = i))) → ct R k + 1 = ct Q k
  | 0, h, _ => absurd h (Nat.not_lt_zero i)
  | k + 1, h, hR => by
    show ct R k + (if R k then 1 else 0) + 1 = ct Q k + (if Q k then 1 else 0)
    rcases Nat.lt_succ_iff_lt_or_eq.mp h with q | q
    · have ih := ct_off hi q (fun j hj => hR j (by omega))
      rw [hR k (by omega), decide_eq_true (show ¬ k = i by omega), Bool.and_true]
      omega
    · subst q
      rw [hR i (by omega), decide_eq_false (fun z => z rfl), Bool.and_false, hi]
      have : ct R i = ct Q i := ct_cong fun j hj => by rw [hR j (by omega), decide_eq_true (show ¬ j = i by omega), Bool.and_true]
      rw [this]; rfl
theorem lo_64 {x : Int64} (h : ¬ x = 0) : ct (lb (x &&& (x - 1))) 64 + 1 = ct (lb x) 64 := by
  obtain ⟨X, hX, rfl⟩ := wb_of x
  have h0 : 0 < X := Nat.pos_of_ne_zero (fun q => h (by rw [q]; rfl))
  obtain ⟨i, hi, hj⟩ := low_n h0
  have hi64 : i < 64 := by
    apply Classical.byContradiction
    intro q
    rw [Nat.testBit_lt_two_pow (Nat.lt_of_lt_of_le hX (Nat.pow_le_pow_right (by decide) (by omega)))] at hi
    cases hi
  have e : lN X &&& (lN X - 1) = lN (X &&& (X - 1)) := by
    rw [show lN X - 1 = lN (X - 1) from lN_sub (b := 1) h0, wb_and hX (by omega)]
  rw [e]
  have hb : ∀ (Z : Nat) (j : Nat), j < 64 → lb (lN Z) j = Z.testBit j := fun Z j hj => by
    show (BitVec.ofNat 64 Z).getLsbD j = _
    rw [BitVec.getLsbD_ofNat]; simp [hj]
  refine ct_off (i := i) (by rw [hb X i hi64]; exact hi) hi64 (fun j hj2 => ?_)
  rw [hb _ j hj2, hb _ j hj2, hj j]
def cH (ef : Nat → Int64) (had : Int64) (w : Nat) : Nat := ct (lb (ef w &&& (had ^^^ (-1)))) 64
theorem cH_le (ef : Nat → Int64) (had : Int64) (w : Nat) : cH ef had w ≤ 64 := ct_le _ 64
def GM (ef : Nat → Int64) (m : Nat) : Nat → Int64 → Int32 → Prop
  | 0, had, r => isB (cH ef had) m r
  | k + 1, had, r => (∃ w, w < m ∧ isB (cH ef had) m (nI w) ∧ GM ef m k (had ||| ef w) r) ∨ (isB (cH ef had) m (-104) ∧ r = -104)
