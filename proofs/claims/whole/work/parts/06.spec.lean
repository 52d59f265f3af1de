/-! the circuit's mathematics: columns, words, codes -/
def bL (b : Bool) : Int64 := if b then -1 else 0
theorem lb_bL (b : Bool) {w : Nat} (hw : w < 64) : lb (bL b) w = b := by
  cases b
  · exact lb_0 w
  · exact lb_m1 w hw
def ib (x : Int32) (k : Nat) : Bool := x.toBitVec.getLsbD k
theorem ib_nI {f k : Nat} (hk : k < 32) : ib (nI f) k = f.testBit k := by
  show (BitVec.ofNat 32 f).getLsbD k = _
  rw [BitVec.getLsbD_ofNat]; simp [hk]
theorem hk_sm : ∀ k, k < 32 → ((nI k &&& 31).toBitVec.smod 32).toNat = k := by decide +kernel
theorem ib_shr (x : Int32) {k : Nat} (hk : k < 32) : (x >>> (nI k &&& 31)).toBitVec = x.toBitVec.sshiftRight k := by
  show x.toBitVec.sshiftRight' ((nI k &&& 31).toBitVec.smod 32) = _
  rw [BitVec.sshiftRight_eq', hk_sm k hk]
theorem lb_and1 (y : Int64) : -(y &&& 1) = bL (lb y 0) := by
  have h : y &&& 1 = if lb y 0 then 1 else 0 := by
    apply lb_ext
    intro w hw
    rw [lb_and]
    have e : lb 1 w = decide (w = 0) := by revert w; decide +kernel
    rw [e]
    by_cases h0 : w = 0
    · subst h0; cases hb : lb y 0 <;> simp [lb_0] <;> decide
    · simp [h0]; cases hb : lb y 0 <;> simp [lb_0, e, h0]
  rw [h]
  cases lb y 0 <;> decide
theorem ib_col (x : Int32) {k : Nat} (hk : k < 32) : -((x >>> (nI k &&& 31)).toInt64 &&& 1) = bL (ib x k) := by
  rw [lb_and1]
  congr 1
  show ((x >>> (nI k &&& 31)).toBitVec.signExtend 64).getLsbD 0 = _
  rw [ib_shr x hk, BitVec.getLsbD_signExtend, BitVec.getLsbD_sshiftRight]
  simp [ib, hk]
def gL (t : Nat) (x y : Int64) : Int64 := match t with
  | 0 => x &&& y
  | 1 => x ||| y
  | 2 => x ^^^ y
  | 3 => (x &&& y) ^^^ (-1)
  | 4 => (x ||| y) ^^^ (-1)
  | _ => x ^^^ (-1)
def gB (t : Nat) (x y : Bool) : Bool := match t with
  | 0 => x && y
  | 1 => x || y
  | 2 => x ^^ y
  | 3 => !(x && y)
  | 4 => !(x || y)
  | _ => !x
theorem lb_gL (t : Nat) (x y : Int64) {w : Nat} (hw : w < 64) : lb (gL t x y) w = gB t (lb x w) (lb y w) := by
  unfold gL gB
  split <;> simp only [lb_and, lb_or, lb_xor, lb_m1 w hw, Bool.xor_true]
/-- the fault of a number, node by node -/
def Ff (f : Int32) (j : Nat) : Option Bool := if nI j = f >>> (1 &&& 31) then some (ib f 0) else none
def sc (n : Nat) (ty A B : Nat → Nat) (F : Nat → Option Bool) (j : Nat) : Int64 := match F j with
  | some b => bL b
  | none => if j < n then hk_col j else gL (ty j) (if _h : A j < j then sc n ty A B F (A j) else 0) (if _h : B j < j then sc n ty A B F (B j) else 0)
termination_by j
def sv (n : Nat) (ty A B : Nat → Nat) (F : Nat → Option Bool) (w : Nat) (j : Nat) : Bool := match F j with
  | some b => b
  | none => if j < n then w.testBit j else gB (ty j) (if _h : A j < j then sv n ty A B F w (A j) else false) (if _h : B j < j then sv n ty A B F w (B j) else false)
termination_by j
theorem hk_colb : ∀ j, j < 6 → ∀ w, w < 64 → lb (hk_col j) w = w.testBit j := by decide +kernel
theorem lb_sc {n : Nat} (hn : n ≤ 6) (ty A B : Nat → Nat) (F : Nat → Option Bool) {w : Nat} (hw : w < 64) (j : Nat) : lb (sc n ty A B F j) w = sv n ty A B F w j := by
  induction j using Nat.strongRecOn with
  | ind j ih =>
    rw [sc, sv]
    cases F j with
    | some b => exact lb_bL b hw
    | none =>
      simp only
      by_cases hj : j < n
      · rw [if_pos hj, if_pos hj]; exact hk_colb j (by omega) w hw
      · rw [if_neg hj, if_neg hj, lb_gL _ _ _ hw]
        congr 1
        · by_cases h : A j < j
          · rw [dif_pos h, dif_pos h]; exact ih _ h
          · rw [dif_neg h, dif_neg h]; exact lb_0 w
        · by_cases h : B j < j
          · rw [dif_pos h, dif_pos h]; exact ih _ h
          · rw [dif_neg h, dif_neg h]; exact lb_0 w
/-- the word of o bits -/
def wd (P : Nat → Bool) : Nat → Nat
  | 0 => 0
  | k + 1 => wd P k + (if P k then 2 ^ k else 0)
theorem wd_lt (P : Nat → Bool) : ∀ k, wd P k < 2 ^ k
  | 0 => Nat.one_pos
  | k + 1 => by
    have h := wd_lt P k
    show wd P k + _ < _
    rw [Nat.pow_succ]
    split <;> omega
theorem wd_cong {P P' : Nat → Bool} : ∀ {k : Nat}, (∀ i, i < k → P i = P' i) → wd P k = wd P' k
  | 0, _ => rfl
  | k + 1, h => by
    show wd P k + _ = wd P' k + _
    rw [wd_cong (fun i hi => h i (by omega)), h k (by omega)]
theorem wd_orI : ∀ k, k < 6 → ∀ x, x < 64 → x < 2 ^ k → ∀ b : Bool, nI x ||| (bI b <<< (nI k &&& 31)) = nI (x + (if b then 2 ^ k else 0)) := by decide +kernel
theorem wd_bit (P : Nat → Bool) : ∀ {k i : Nat}, i < k → (wd P k).testBit i = P i
  | 0, i, h => absurd h (Nat.not_lt_zero i)
  | k + 1, i, h => by
    show (wd P k + _).testBit i = _
    have hl := wd_lt P k
    rcases Nat.lt_succ_iff_lt_or_eq.mp h with q | q
    · have ih := wd_bit P q
      split
      · rw [Nat.add_comm, ← Nat.mul_one (2 ^ k), Nat.testBit_two_pow_mul_add 1 hl]; simp [q, ih]
      · rw [Nat.add_zero]; exact ih
    · subst q
      split
      · rename_i hp
        rw [hp, Nat.add_comm, ← Nat.mul_one (2 ^ i), Nat.testBit_two_pow_mul_add 1 hl]; simp
      · rename_i hp
        rw [Nat.add_zero, Nat.testBit_lt_two_pow hl]; simpa using hp
def ct (P : Nat → Bool) : Nat → Nat
  | 0 => 0
  | k + 1 => ct P k + (if P k then 1 else 0)
theorem ct_le (P : Nat → Bool) : ∀ k, ct P k ≤ k
  | 0 => Nat.le_refl _
  | k + 1 => by
    have h := ct_le P k
    show ct P k + _ ≤ _
    split <;> omega
theorem ct_cong {P P' : Nat → Bool} : ∀ {k : Nat}, (∀ i, i < k → P i = P' i) → ct P k = ct P' k
  | 0, _ => rfl
  | k + 1, h => by
    show ct P k + _ = ct P' k + _
    rw [ct_cong (fun i hi => h i (by omega)), h k (by omega)]
/-- which words are code words -/
def trB (P : Nat → Bool) : Nat → Bool
  | 0 => true
  | k + 1 => trB P k && (P (2 * k) ^^ P (2 * k + 1))
def beB (m o : Nat) (P : Nat → Bool) : Nat → Bool
  | 0 => true
  | k + 1 => beB m o P k && ((ct (fun i => !P i) m).testBit k == (decide (m + k < o) && P (m + k)))
def ic (cd o m : Nat) (P : Nat → Bool) : Bool := match cd with
  | 1 => decide (o % 2 = 0) && trB P (o / 2)
  | 2 => decide (ct P o = m)
  | 3 => decide (m ≤ o) && beB m o P 6
  | _ => true
theorem hk_sw0_4 (x : Int32) : x = 0 ∨ x = 1 ∨ x = 2 ∨ x = 3 ∨ x = 4 ∨ (x.toInt < 0 ∨ 4 < x.toInt) := by
  have h : ∀ k : Int32, x.toInt = k.toInt → x = k := fun k h => Int32.toInt_inj.mp h
  by_cases h1 : x.toInt < 0 ∨ 4 < x.toInt
  · simp [h1]
  · have : x.toInt = 0 ∨ x.toInt = 1 ∨ x.toInt = 2 ∨ x.toInt = 3 ∨ x.toInt = 4 := by omega
    rcases this with q | q | q | q | q
    · exact Or.inl (h 0 (by rw [q]; rfl))
    · exact Or.inr (Or.inl (h 1 (by rw [q]; rfl)))
    · exact Or.inr (Or.inr (Or.inl (h 2 (by rw [q]; rfl))))
    · exact Or.inr (Or.inr (Or.inr (Or.inl (h 3 (by rw [q]; rfl)))))
    · exact Or.inr (Or.inr (Or.inr (Or.inr (Or.inl (h 4 (by rw [q]; rfl))))))
theorem hk_sw1_3 (x : Int32) : x = 1 ∨ x = 2 ∨ x = 3 ∨ (x.toInt < 1 ∨ 3 < x.toInt) := by
  have h : ∀ k : Int32, x.toInt = k.toInt → x = k := fun k h => Int32.toInt_inj.mp h
  by_cases h1 : x.toInt < 1 ∨ 3 < x.toInt
  · simp [h1]
  · have : x.toInt = 1 ∨ x.toInt = 2 ∨ x.toInt = 3 := by omega
    rcases this with q | q | q
    · exact Or.inl (h 1 (by rw [q]; rfl))
    · exact Or.inr (Or.inl (h 2 (by rw [q]; rfl)))
    · exact Or.inr (Or.inr (Or.inl (h 3 (by rw [q]; rfl))))
