def hn (N : Nat) (v : Int32) : Bool := !decide (v < 0) && !decide (nI N ≤ v)
theorem hn_eq (N : Nat) (v : Int32) : (if v < 0 then (0 : Int32) else if nI N ≤ v then 0 else 1) = bI (hn N v) := by
  unfold hn
  by_cases h1 : v < 0
  · rw [if_pos h1, decide_eq_true h1]; rfl
  · rw [if_neg h1, decide_eq_false h1]
    by_cases h2 : nI N ≤ v
    · rw [if_pos h2, decide_eq_true h2]; rfl
    · rw [if_neg h2, decide_eq_false h2]; rfl
theorem hn_t {N j : Nat} (h : j < N) (hN : N < 2 ^ 31) : hn N (nI j) = true := by
  unfold hn
  rw [decide_eq_false (nI_pos (by omega)), decide_eq_false (nI_ge h hN)]; rfl
theorem hn_ex {N : Nat} {v : Int32} (h : hn N v = true) (hN : N < 2 ^ 31) : ∃ j, j < N ∧ v = nI j := by
  unfold hn at h
  rw [Bool.and_eq_true, Bool.not_eq_true', Bool.not_eq_true'] at h
  have h1 := of_decide_eq_false h.1
  have h2 := of_decide_eq_false h.2
  obtain ⟨j, hj, rfl⟩ := nI_of h1
  exact ⟨j, Nat.not_le.mp fun q => h2 (nI_le q hj), rfl⟩
theorem hn_f {N : Nat} {v : Int32} (h : v < 0 ∨ nI N ≤ v) : hn N v = false := by
  unfold hn
  rcases h with h | h
  · rw [decide_eq_true h]; rfl
  · rw [decide_eq_true h]; simp
theorem hn_lt {N : Nat} {v : Int32} (h : hn N v = false) (h0 : ¬ v < 0) : nI N ≤ v := by
  unfold hn at h
  rw [decide_eq_false h0] at h
  simpa using h
theorem hn_pw : ∀ n, n < 7 → (1 : Int32) <<< (nI n &&& 31) = nI (2 ^ n) := by decide +kernel
theorem hn_rm {n N k : Nat} (h1 : n ≤ N) (h2 : N ≤ 30) (h3 : k ≤ 6) : (if (24 : Int32) < ((nI N - nI n) + nI k) then (0 : Int32) else 1) = bI (decide (N + k ≤ n + 24)) := by
  rw [pk_sub h1, nI_add, show (24 : Int32) = nI 24 from rfl]
  by_cases h : 24 < N - n + k
  · rw [if_pos (nI_lt (a := 24) h (by omega)), decide_eq_false (by omega)]; rfl
  · rw [if_neg (fun q => h ((nI_ltI (a := 24) (by omega) (by omega)).mp q)), decide_eq_true (by omega)]; rfl
