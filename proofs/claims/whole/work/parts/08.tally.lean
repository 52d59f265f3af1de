def trL (oc : Nat → Int64) : Nat → Int64
  | 0 => -1
  | k + 1 => trL oc k &&& (oc (2 * k) ^^^ oc (2 * k + 1))
theorem lb_trL (oc : Nat → Int64) {w : Nat} (hw : w < 64) : ∀ k, lb (trL oc k) w = trB (fun i => lb (oc i) w) k
  | 0 => lb_m1 w hw
  | k + 1 => by
    show lb (trL oc k &&& (oc (2 * k) ^^^ oc (2 * k + 1))) w = _
    rw [lb_and, lb_xor, lb_trL oc hw k]; rfl
/-- the three digits hold a number under each word -/
def tD (f : Nat → Int64) (x : Nat → Nat) : Prop := ∀ w, w < 64 → lb (f 0) w = (x w).testBit 0 ∧ lb (f 1) w = (x w).testBit 1 ∧ lb (f 2) w = (x w).testBit 2
theorem tD_0 {f : Nat → Int64} (h : f 0 = 0 ∧ f 1 = 0 ∧ f 2 = 0) : tD f (fun _ => 0) := fun w _ => by rw [h.1, h.2.1, h.2.2, lb_0]; simp
theorem tD_d : ∀ x, x < 7 → ∀ c : Bool, (x + (if c then 1 else 0)).testBit 0 = (x.testBit 0 ^^ c) ∧ (x + (if c then 1 else 0)).testBit 1 = (x.testBit 1 ^^ (c && x.testBit 0)) ∧ (x + (if c then 1 else 0)).testBit 2 = (x.testBit 2 ^^ ((c && x.testBit 0) && x.testBit 1)) := by decide +kernel
theorem tD_s {f f' : Nat → Int64} {x : Nat → Nat} {c : Int64} (h : tD f x) (hx : ∀ w, x w < 7) (h' : f' 0 = f 0 ^^^ c ∧ f' 1 = f 1 ^^^ (c &&& f 0) ∧ f' 2 = f 2 ^^^ ((c &&& f 0) &&& f 1)) : tD f' (fun w => x w + (if lb c w then 1 else 0)) := by
  intro w hw
  obtain ⟨a0, a1, a2⟩ := h w hw
  obtain ⟨d0, d1, d2⟩ := tD_d (x w) (hx w) (lb c w)
  rw [h'.1, h'.2.1, h'.2.2]
  simp only [lb_xor, lb_and, a0, a1, a2]
  exact ⟨d0.symm, d1.symm, d2.symm⟩
theorem cw_d : ∀ x, x < 7 → ∀ m, m < 7 → ((((true && ((x.testBit 0 ^^ m.testBit 0) ^^ true)) && ((x.testBit 1 ^^ m.testBit 1) ^^ true)) && ((x.testBit 2 ^^ m.testBit 2) ^^ true)) = decide (x = m)) := by decide +kernel
theorem hk_m1o : ∀ o, o < 7 → ((nI o &&& 1) = 1 ↔ o % 2 = 1) := by decide +kernel
theorem ct_6 (P : Nat → Bool) {k : Nat} (h : k ≤ 6) : ct P k < 7 := Nat.lt_of_le_of_lt (ct_le P k) (by omega)
theorem t8 : ∀ x, x < 7 → x.testBit 3 = false ∧ x.testBit 4 = false ∧ x.testBit 5 = false := by decide +kernel
theorem xn (a b : Bool) : ((a ^^ b) ^^ true) = (a == b) := by cases a <;> cases b <;> rfl
