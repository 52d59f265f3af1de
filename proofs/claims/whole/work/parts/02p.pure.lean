/-! plain facts: bits of longs, small numbers -/
theorem hk_ge {k : Int32} (n : Nat) {i : Nat} (h : k ≤ nI i) (hk : k = nI n := by rfl) (hi : i < 2 ^ 31 := by omega) (hn : n < 2 ^ 31 := by omega) : n ≤ i := (nI_leI hn hi).mp (hk ▸ h)
theorem hk_nge {k : Int32} (n : Nat) {i : Nat} (h : ¬ k ≤ nI i) (hk : k = nI n := by rfl) (hi : i < 2 ^ 31 := by omega) (hn : n < 2 ^ 31 := by omega) : i < n := Nat.not_le.mp fun q => h (hk ▸ (nI_leI hn hi).mpr q)
def bI (b : Bool) : Int32 := if b then 1 else 0
theorem bI_1 {b : Bool} : bI b = 1 ↔ b = true := by cases b <;> decide
theorem bI_n1 {b : Bool} (h : ¬ bI b = 1) : b = false := by cases b <;> first | rfl | exact absurd rfl h
theorem bI_0 {b : Bool} : bI b = 0 ↔ b = false := by cases b <;> decide
theorem bI_n0 {b : Bool} (h : ¬ bI b = 0) : b = true := by cases b <;> first | rfl | exact absurd rfl h
theorem bI_d {p : Prop} (i : Decidable p) : (if p then (1 : Int32) else 0) = bI (decide p) := by by_cases h : p <;> simp [bI, h]
def lb (x : Int64) (w : Nat) : Bool := x.toBitVec.getLsbD w
theorem lb_ext {x y : Int64} (h : ∀ w, w < 64 → lb x w = lb y w) : x = y := Int64.toBitVec_inj.mp (BitVec.eq_of_getLsbD_eq (fun i hi => h i hi))
theorem lb_and (x y : Int64) (w : Nat) : lb (x &&& y) w = (lb x w && lb y w) := by unfold lb; rw [Int64.toBitVec_and, BitVec.getLsbD_and]
theorem lb_or (x y : Int64) (w : Nat) : lb (x ||| y) w = (lb x w || lb y w) := by unfold lb; rw [Int64.toBitVec_or, BitVec.getLsbD_or]
theorem lb_xor (x y : Int64) (w : Nat) : lb (x ^^^ y) w = (lb x w ^^ lb y w) := by unfold lb; rw [Int64.toBitVec_xor, BitVec.getLsbD_xor]
theorem lb_m1 : ∀ w, w < 64 → lb (-1) w = true := by decide +kernel
theorem lb_0 (w : Nat) : lb 0 w = false := by
  show (0#64).getLsbD w = false
  exact BitVec.getLsbD_zero
theorem lb_not (x : Int64) {w : Nat} (h : w < 64) : lb (x ^^^ (-1)) w = !lb x w := by rw [lb_xor, lb_m1 w h]; cases lb x w <;> rfl
theorem lb_big (x : Int64) {w : Nat} (h : 64 ≤ w) : lb x w = false := BitVec.getLsbD_of_ge _ _ h
theorem lb_ne0 {x : Int64} : ¬ x = 0 ↔ ∃ w, w < 64 ∧ lb x w = true := by
  constructor
  · intro h
    apply Classical.byContradiction
    intro hn
    apply h
    apply lb_ext
    intro w hw
    rw [lb_0]
    cases hb : lb x w
    · rfl
    · exact absurd ⟨w, hw, hb⟩ hn
  · rintro ⟨w, -, h⟩ rfl
    rw [lb_0] at h
    cases h
theorem hk_cu : ∀ k, k < 64 → ((nI k).toInt64.toUInt64 &&& Int64.toUInt64 63) = UInt64.ofNat k := by decide +kernel
theorem hk_un : ∀ k, k < 64 → (UInt64.ofNat k).toNat % 64 = k := by decide +kernel
theorem lb_ushr (x : Int64) {k : Nat} (hk : k < 64) : (x.toUInt64 >>> ((nI k).toInt64.toUInt64 &&& Int64.toUInt64 63)).toInt64.toBitVec = x.toBitVec >>> k := by
  rw [hk_cu k hk]
  apply BitVec.eq_of_toNat_eq
  show (x.toUInt64 >>> UInt64.ofNat k).toNat = _
  rw [UInt64.toNat_shiftRight, hk_un k hk, BitVec.toNat_ushiftRight]
  rfl
theorem hk_b1 : ∀ i, i < 32 → (1 : Int32).toBitVec.getLsbD i = decide (i = 0) := by decide +kernel
theorem hk_bI (b : Bool) : ∀ i, i < 32 → (bI b).toBitVec.getLsbD i = (decide (i = 0) && b) := by cases b <;> decide +kernel
theorem lb_bit (x : Int64) {w : Nat} (hw : w < 64) : ((x.toUInt64 >>> ((nI w).toInt64.toUInt64 &&& Int64.toUInt64 63)).toInt64.toInt32 &&& 1) = bI (lb x w) := by
  apply Int32.toBitVec_inj.mp
  apply BitVec.eq_of_getLsbD_eq
  intro i hi
  rw [Int32.toBitVec_and, BitVec.getLsbD_and, hk_b1 i hi, hk_bI _ i hi]
  by_cases h0 : i = 0
  · subst h0
    have e : ((x.toUInt64 >>> ((nI w).toInt64.toUInt64 &&& Int64.toUInt64 63)).toInt64.toInt32).toBitVec = (x.toUInt64 >>> ((nI w).toInt64.toUInt64 &&& Int64.toUInt64 63)).toInt64.toBitVec.signExtend 32 := rfl
    rw [e, lb_ushr x hw, BitVec.getLsbD_signExtend]
    simp [lb, BitVec.getLsbD_ushiftRight]
  · simp [h0]
theorem hk_tp : ∀ k, k < 64 → ((1 : Int64) <<< ((nI k).toInt64 &&& 63)).toBitVec = BitVec.twoPow 64 k := by decide +kernel
theorem lb_shl1 {k : Nat} (hk : k < 64) {w : Nat} (hw : w < 64) : lb ((1 : Int64) <<< ((nI k).toInt64 &&& 63)) w = decide (w = k) := by
  unfold lb
  rw [hk_tp k hk, BitVec.getLsbD_twoPow]
  by_cases h : w = k
  · subst h; simp [hw]
  · simp [h, Ne.symm h]
/-- the first place of n at which P holds, or -104 -/
def isF (P : Nat → Bool) (n : Nat) (r : Int32) : Prop := (∃ w, w < n ∧ P w = true ∧ (∀ k, k < w → P k = false) ∧ r = nI w) ∨ ((∀ k, k < n → P k = false) ∧ r = -104)
theorem isF_one {P P' : Nat → Bool} {n n' : Nat} {r r' : Int32} (h : isF P n r) (h' : isF P' n' r') (e : ∀ k, k < n → P k = P' k) (hn : n ≤ n') (ho : ∀ k, n ≤ k → k < n' → P' k = false) : r = r' := by
  rcases h with ⟨w, h1, h2, h3, rfl⟩ | ⟨h1, rfl⟩ <;> rcases h' with ⟨w', g1, g2, g3, rfl⟩ | ⟨g1, rfl⟩
  · have hw' : w' < n := by
      rcases Nat.lt_or_ge w' n with q | q
      · exact q
      · rw [ho w' q g1] at g2; cases g2
    rcases Nat.lt_trichotomy w w' with q | q | q
    · have := g3 w q; rw [← e w h1, h2] at this; cases this
    · rw [q]
    · have := h3 w' q; rw [e w' hw', g2] at this; cases this
  · have := g1 w (by omega); rw [← e w h1, h2] at this; cases this
  · rcases Nat.lt_or_ge w' n with q | q
    · have := h1 w' q; rw [e w' q, g2] at this; cases this
    · rw [ho w' q g1] at g2; cases g2
  · rfl
def cov (u k : Nat) : Bool := decide ((nI k &&& (nI u ^^^ (-1))) = 0)
theorem hk_up (Q : Nat → Int32 → Prop) {f : Nat → Int32} {i : Nat} {x : Int32} (h : ∀ j, j < i → Q j (f j)) (hx : Q i x) : ∀ j, j < i + 1 → Q j (upd f i x j) := by
  intro j hj
  by_cases e : j = i
  · rw [e, pk_us]; exact hx
  · rw [pk_un e]; exact h j (by omega)
theorem hk_upL (Q : Nat → Int64 → Prop) {f : Nat → Int64} {i : Nat} {x : Int64} (h : ∀ j, j < i → Q j (f j)) (hx : Q i x) : ∀ j, j < i + 1 → Q j (vp_updL f i x j) := by
  intro j hj
  by_cases e : j = i
  · rw [e, pk_uLs]; exact hx
  · rw [pk_uLn e]; exact h j (by omega)
