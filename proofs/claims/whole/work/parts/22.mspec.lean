/-! the circuit in the reference's row of numbers -/
def MR (n N o cd wt : Nat) (ty pa pb vo : Nat → Nat) (nm : Int64) (fs : Nat → Int32) : Prop := (fs 0 = nI n ∧ fs 1 = nI (N - n) ∧ fs 74 = nI o ∧ fs 81 = nI cd ∧ fs 82 = nI wt) ∧ (∀ j, n ≤ j → j < N → fs (2 + 3 * (j - n)) = nI (ty j) ∧ ty j ≤ 5 ∧ fs (2 + 3 * (j - n) + 1) = nI (pa j) ∧ pa j < j ∧ (ty j ≠ 5 → fs (2 + 3 * (j - n) + 2) = nI (pb j) ∧ pb j < j)) ∧ (∀ k, k < o → fs (75 + k) = nI (vo k) ∧ vo k < N) ∧ ∀ w, w < 64 → fs (83 + w) = bI (lb nm w)
def inL (v lo hi : Int64) : Bool := decide (lo ≤ v) && decide (v ≤ hi)
theorem lg_lt (x y : Int64) : lg_cmp x y < 0 ↔ x < y := by
  unfold lg_cmp
  constructor
  · intro h
    split at h
    · exact absurd h (by decide)
    · split at h
      · exact absurd h (by decide)
      · rename_i h1 h2
        have a1 := mt Int64.lt_iff_toInt_lt.mpr h1
        have a2 := mt (fun q => Int64.toInt_inj.mp q) h2
        apply Int64.lt_iff_toInt_lt.mpr
        omega
  · intro h
    have a := Int64.lt_iff_toInt_lt.mp h
    rw [if_neg (fun q => by have := Int64.lt_iff_toInt_lt.mp q; omega), if_neg (fun q => by rw [q] at a; omega)]
    decide
theorem lg_gt (x y : Int64) : 0 < lg_cmp x y ↔ y < x := by
  unfold lg_cmp
  constructor
  · intro h
    split at h
    · assumption
    · split at h
      · exact absurd h (by decide)
      · exact absurd h (by decide)
  · intro h
    rw [if_pos h]; decide
theorem inL_1 {v lo hi : Int64} (h : v < lo) : inL v lo hi = false := by
  unfold inL; rw [decide_eq_false (Int64.not_le.mpr h)]; rfl
theorem inL_2 {v lo hi : Int64} (h : hi < v) : inL v lo hi = false := by
  unfold inL; rw [decide_eq_false (Int64.not_le.mpr h)]; simp
theorem inL_3 {v lo hi : Int64} (h : ¬ v < lo) (h' : ¬ hi < v) : inL v lo hi = true := by
  unfold inL; rw [decide_eq_true (Int64.not_lt.mp h), decide_eq_true (Int64.not_lt.mp h')]; rfl
theorem inL_hn {N : Nat} {v : Int32} {hi : Int64} (hh : hi.toInt = (N : Int) - 1) (hN : N < 2 ^ 31) : inL v.toInt64 0 hi = hn N v := by
  unfold inL hn
  have e : v.toInt64.toInt = v.toInt := Int32.toInt_toInt64 v
  have z : (0 : Int64).toInt = 0 := by decide
  have z2 : (0 : Int32).toInt = 0 := by decide
  congr 1
  · rw [← Bool.not_not (decide (0 ≤ v.toInt64)), ← decide_not]
    congr 1
    apply decide_eq_decide.mpr
    rw [Int64.le_iff_toInt_le, Int32.lt_iff_toInt_lt, e, z, z2]; omega
  · rw [← Bool.not_not (decide (v.toInt64 ≤ hi)), ← decide_not]
    congr 1
    apply decide_eq_decide.mpr
    rw [Int64.le_iff_toInt_le, Int32.le_iff_toInt_le, e, hh, nI_toInt hN]; omega
theorem hi_N {N : Nat} (h1 : N < 2 ^ 30) : ((nI N - 1).toInt64).toInt = (N : Int) - 1 := by
  rw [Int32.toInt_toInt64]
  exact pk_sub_toInt (b := 1) h1 (by decide)
theorem hk_zb (b : Bool) : narrow .boolean (.int (bI b)) = .int (bI b) := by cases b <;> decide
theorem mix {a : Nat} {x : Int32} {d : Nat} (hx : x = nI d) : (2 : Int32) + (3 : Int32) * x = nI (2 + 3 * d) := by
  rw [hx, show (3 : Int32) = nI 3 from rfl, pk_mul, show (2 : Int32) = nI 2 from rfl, nI_add]
def gI (t : Nat) (x y : Bool) : Int32 := bI (gB t x y)
theorem gI_d : ∀ x y : Bool, (bI x &&& bI y) = gI 0 x y ∧ (bI x ||| bI y) = gI 1 x y ∧ (bI x ^^^ bI y) = gI 2 x y ∧ ((1 : Int32) - (bI x &&& bI y)) = gI 3 x y ∧ ((1 : Int32) - (bI x ||| bI y)) = gI 4 x y ∧ ((1 : Int32) - bI x) = gI 5 x y := by decide +kernel
theorem gB_5 {t : Nat} (h : 5 ≤ t) (x y y' : Bool) : gB t x y = gB t x y' := by
  unfold gB
  split <;> first | omega | rfl
theorem pw_64 {n w : Nat} (hn : n ≤ 6) (h : w < 2 ^ n) : w < 64 := Nat.lt_of_lt_of_le h (Nat.pow_le_pow_right (by decide) hn : 2 ^ n ≤ 2 ^ 6)
def fK (f : Int32) : Prop := f = -1 ∨ ∃ k, k < 60 ∧ f = nI k
theorem Ff_m1 (j : Nat) (hj : j < 2 ^ 31) : Ff (-1) j = none := by
  unfold Ff
  rw [if_neg]
  intro h
  have e : ((-1 : Int32) >>> (1 &&& 31)) = -1 := by decide
  rw [e] at h
  exact absurd (show nI j < 0 by rw [h]; decide) (nI_pos hj)
theorem Ff_k1 : ∀ k, k < 60 → (nI k >>> (1 &&& 31)) = nI (k / 2) ∧ ib (nI k) 0 = decide (k % 2 = 1) ∧ (nI k / 2) = nI (k / 2) ∧ (nI k - nI k / 2 * 2) = bI (decide (k % 2 = 1)) := by decide +kernel
theorem Ff_eq {k j : Nat} (hk : k < 60) (h : nI k / 2 = nI j) : Ff (nI k) j = some (decide (k % 2 = 1)) := by
  unfold Ff
  obtain ⟨e1, e2, e3, -⟩ := Ff_k1 k hk
  rw [if_pos (by rw [e1, ← e3, h]), e2]
theorem Ff_ne {k j : Nat} (hk : k < 60) (h : ¬ nI k / 2 = nI j) : Ff (nI k) j = none := by
  unfold Ff
  obtain ⟨e1, e2, e3, -⟩ := Ff_k1 k hk
  rw [if_neg (fun q => h (by rw [e3, ← e1, q]))]
theorem sv_f {n : Nat} {ty A B : Nat → Nat} {F : Nat → Option Bool} {w j : Nat} {b : Bool} (h : F j = some b) : sv n ty A B F w j = b := by rw [sv, h]
theorem sv_i {n : Nat} {ty A B : Nat → Nat} {F : Nat → Option Bool} {w j : Nat} (h : F j = none) (hj : j < n) : sv n ty A B F w j = w.testBit j := by rw [sv, h]; simp only; rw [if_pos hj]
theorem sv_g {n : Nat} {ty A B : Nat → Nat} {F : Nat → Option Bool} {w j : Nat} (h : F j = none) (hj : n ≤ j) (hA : A j < j) (hB : ty j ≠ 5 → B j < j) (h5 : ty j ≤ 5) : sv n ty A B F w j = gB (ty j) (sv n ty A B F w (A j)) (sv n ty A B F w (B j)) := by
  rw [sv, h]
  simp only
  rw [if_neg (by omega), dif_pos hA]
  by_cases q : ty j = 5
  · exact gB_5 (by omega) _ _ _
  · rw [dif_pos (hB q)]
theorem wbit : ∀ w, w < 64 → ∀ j, j < 6 → ((nI w >>> (nI j &&& 31)) &&& 1) = bI (w.testBit j) := by decide +kernel
theorem pc_d : ∀ x, x < 64 → 0 < x → (nI x &&& (nI x - 1)) = nI (x &&& (x - 1)) ∧ (x &&& (x - 1)) < x ∧ ct (fun k => x.testBit k) 6 = ct (fun k => (x &&& (x - 1)).testBit k) 6 + 1 := by decide +kernel
theorem pc_0 : ct (fun k => (0 : Nat).testBit k) 6 = 0 := by decide
theorem cw_m : ∀ o, o < 7 → ∀ x, x < 2 ^ o → ct (fun k => x.testBit k) 6 = ct (fun k => x.testBit k) o := by decide +kernel
theorem be_m : ∀ o, o < 7 → ∀ m, m ≤ o → ∀ x, x < 2 ^ o → (decide ((nI x >>> (nI m &&& 31)) = (nI m - nI (ct (fun k => ((x &&& (2 ^ m - 1)).testBit k)) 6)))) = beB m o (fun k => x.testBit k) 6 := by decide +kernel
theorem be_a : ∀ m, m < 7 → ∀ x, x < 64 → (nI x &&& (((1 : Int32) <<< (nI m &&& 31)) - 1)) = nI (x &&& (2 ^ m - 1)) ∧ (x &&& (2 ^ m - 1)) < 64 := by decide +kernel
theorem tr_m : ∀ x, x < 64 → ∀ k, k < 3 → ((nI x >>> (nI (2 * k) &&& 31)) &&& 1) = bI (x.testBit (2 * k)) ∧ ((nI x >>> (nI (2 * k + 1) &&& 31)) &&& 1) = bI (x.testBit (2 * k + 1)) := by decide +kernel
theorem bI_eq {a b : Bool} : bI a = bI b ↔ a = b := by cases a <;> cases b <;> decide
