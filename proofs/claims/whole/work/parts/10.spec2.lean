/-! the circuit that the cells hold -/
def Gok (n N : Nat) (ty pa pb : Nat → Nat) (ft fa fb : Nat → Int32) : Prop := ∀ j, n ≤ j → j < N → ft j = nI (ty j) ∧ ty j ≤ 5 ∧ fa j = nI (pa j) ∧ pa j < j ∧ fb j = nI (pb j) ∧ pb j < j
def Ook (N o : Nat) (vo : Nat → Nat) (fo : Nat → Int32) : Prop := ∀ k, k < o → fo k = nI (vo k) ∧ vo k < N
def Cok (n N o cd wt : Nat) : Prop := 1 ≤ n ∧ n ≤ 6 ∧ n ≤ N ∧ N ≤ n + 24 ∧ o ≤ 6 ∧ cd ≤ 3 ∧ wt ≤ 6
theorem sc_f {n : Nat} {ty A B : Nat → Nat} {f : Int32} {j : Nat} (h : nI j = f >>> (1 &&& 31)) : bL (ib f 0) = sc n ty A B (Ff f) j := by
  rw [sc]; unfold Ff; rw [if_pos h]
theorem sc_s {n : Nat} {ty A B : Nat → Nat} {f : Int32} {j : Nat} {nf : Nat → Int64} (h : ¬ nI j = f >>> (1 &&& 31)) (hc : ∀ k, k < j → nf k = sc n ty A B (Ff f) k) (hg : n ≤ j → A j < j ∧ B j < j) : (if j < n then hk_col j else gL (ty j) (nf (A j)) (nf (B j))) = sc n ty A B (Ff f) j := by
  rw [sc]
  have e : Ff f j = none := by unfold Ff; rw [if_neg h]
  rw [e]
  simp only
  by_cases hj : j < n
  · rw [if_pos hj, if_pos hj]
  · obtain ⟨h1, h2⟩ := hg (by omega)
    rw [if_neg hj, if_neg hj, dif_pos h1, dif_pos h2, hc _ h1, hc _ h2]
theorem trB_cong {P P' : Nat → Bool} : ∀ {k : Nat}, (∀ i, i < 2 * k → P i = P' i) → trB P k = trB P' k
  | 0, _ => rfl
  | k + 1, h => by
    show (trB P k && (P (2 * k) ^^ P (2 * k + 1))) = (trB P' k && (P' (2 * k) ^^ P' (2 * k + 1)))
    rw [trB_cong (fun i hi => h i (by omega)), h (2 * k) (by omega), h (2 * k + 1) (by omega)]
theorem beB_cong {m o : Nat} {P P' : Nat → Bool} (hm : m ≤ o) (h : ∀ i, i < o → P i = P' i) : ∀ k, beB m o P k = beB m o P' k
  | 0 => rfl
  | k + 1 => by
    show (beB m o P k && ((ct (fun i => !P i) m).testBit k == (decide (m + k < o) && P (m + k)))) = (beB m o P' k && ((ct (fun i => !P' i) m).testBit k == (decide (m + k < o) && P' (m + k))))
    rw [beB_cong hm h k, ct_cong (P := fun i => !P i) (P' := fun i => !P' i) (fun i hi => by rw [h i (by omega)])]
    by_cases q : m + k < o
    · rw [h _ q]
    · rw [decide_eq_false q]; rfl
theorem ic_cong {cd o m : Nat} {P P' : Nat → Bool} (h : ∀ i, i < o → P i = P' i) : ic cd o m P = ic cd o m P' := by
  unfold ic
  split
  · by_cases q : o % 2 = 0
    · rw [trB_cong (fun i hi => h i (by omega))]
    · rw [decide_eq_false q]; rfl
  · rw [ct_cong h]
  · by_cases q : m ≤ o
    · rw [beB_cong q h]
    · rw [decide_eq_false q]; rfl
  · rfl
/-- the output bits of a word under a fault -/
def oB (n : Nat) (ty pa pb vo : Nat → Nat) (f : Int32) (w k : Nat) : Bool := sv n ty pa pb (Ff f) w (vo k)
def exB (n o cd wt : Nat) (ty pa pb vo : Nat → Nat) (nm : Int64) (f : Int32) (w : Nat) : Bool := lb nm w && !ic cd o wt (oB n ty pa pb vo f w)
def dfB (P P' : Nat → Bool) : Nat → Bool
  | 0 => false
  | k + 1 => dfB P P' k || (P k ^^ P' k)
theorem dfB_cong {P P' Q Q' : Nat → Bool} : ∀ {k : Nat}, (∀ i, i < k → P i = Q i) → (∀ i, i < k → P' i = Q' i) → dfB P P' k = dfB Q Q' k
  | 0, _, _ => rfl
  | k + 1, h, h' => by
    show (dfB P P' k || (P k ^^ P' k)) = (dfB Q Q' k || (Q k ^^ Q' k))
    rw [dfB_cong (fun i hi => h i (by omega)) (fun i hi => h' i (by omega)), h k (by omega), h' k (by omega)]
theorem dfB_wd (P P' : Nat → Bool) : ∀ k, dfB P P' k = decide (¬ wd P k = wd P' k)
  | 0 => by simp [dfB, wd]
  | k + 1 => by
    show (dfB P P' k || (P k ^^ P' k)) = decide (¬ (wd P k + (if P k then 2 ^ k else 0)) = (wd P' k + (if P' k then 2 ^ k else 0)))
    rw [dfB_wd P P' k]
    have h1 := wd_lt P k
    have h2 := wd_lt P' k
    cases P k <;> cases P' k <;> simp <;> omega
def unB (n o cd wt : Nat) (ty pa pb vo : Nat → Nat) (nm : Int64) (f : Int32) (w : Nat) : Bool := (lb nm w && dfB (oB n ty pa pb vo f w) (oB n ty pa pb vo (-1) w) o) && ic cd o wt (oB n ty pa pb vo f w)
theorem lg_0 (x y : Int64) : lg_cmp x y = 0 ↔ x = y := by
  unfold lg_cmp
  constructor
  · intro h
    split at h
    · cases h
    · split at h
      · assumption
      · cases h
  · rintro rfl
    rw [if_neg Int64.lt_irrefl, if_pos rfl]
theorem wsb : ∀ n, n < 7 → 1 ≤ n → ∀ w, w < 64 → lb ((((-1) : Int64).toUInt64 >>> ((64 - ((1 : Int32) <<< (nI n &&& 31))).toInt64.toUInt64 &&& Int64.toUInt64 63)).toInt64) w = decide (w < 2 ^ n) := by decide +kernel
