/-! Long.bitCount's number is the count of ones (wb_ rows: from the kit's BITS family) -/
theorem wb_tb (n : Nat) : (lN n).toBitVec = BitVec.ofNat 64 n := rfl
theorem wb_inj {a b : Int64} (h : a.toBitVec = b.toBitVec) : a = b := Int64.toBitVec_inj.mp h
theorem wb_tn {n : Nat} (h : n < 2 ^ 64) : (lN n).toBitVec.toNat = n := by rw [wb_tb, BitVec.toNat_ofNat, Nat.mod_eq_of_lt h]
theorem wb_of (x : Int64) : ∃ n, n < 2 ^ 64 ∧ x = lN n := ⟨x.toBitVec.toNat, x.toBitVec.isLt, wb_inj (by rw [wb_tb]; simp)⟩
theorem wb_shr {n k : Nat} (hn : n < 2 ^ 64) (hk : k < 64) : ((lN n).toUInt64 >>> ((nI k).toInt64.toUInt64 &&& Int64.toUInt64 63)).toInt64 = lN (n / 2 ^ k) := by
  apply wb_inj
  rw [lb_ushr _ hk]
  apply BitVec.eq_of_toNat_eq
  rw [BitVec.toNat_ushiftRight, wb_tn hn, wb_tn (Nat.lt_of_le_of_lt (Nat.div_le_self _ _) hn), Nat.shiftRight_eq_div_pow]
theorem wb_and {a b : Nat} (ha : a < 2 ^ 64) (hb : b < 2 ^ 64) : lN a &&& lN b = lN (a &&& b) := by
  apply wb_inj
  rw [Int64.toBitVec_and, wb_tb, wb_tb, wb_tb]
  apply BitVec.eq_of_toNat_eq
  rw [BitVec.toNat_and, BitVec.toNat_ofNat, BitVec.toNat_ofNat, BitVec.toNat_ofNat, Nat.mod_eq_of_lt ha, Nat.mod_eq_of_lt hb, Nat.mod_eq_of_lt (Nat.and_lt_two_pow _ hb)]
def pq_mk8 (c : Nat) : Nat → Nat
  | 0 => 0
  | k + 1 => c + 256 * pq_mk8 c k
theorem pq_as8 {a m Y M : Nat} (ha : a < 256) (hm : m < 256) : (a + 256 * Y) &&& (m + 256 * M) = (a &&& m) + 256 * (Y &&& M) := by
  have h1 : a &&& m < 2 ^ 8 := Nat.and_lt_two_pow _ hm
  apply Nat.eq_of_testBit_eq
  intro i
  rw [Nat.testBit_and, show a + 256 * Y = 2 ^ 8 * Y + a by omega, show m + 256 * M = 2 ^ 8 * M + m by omega, show (a &&& m) + 256 * (Y &&& M) = 2 ^ 8 * (Y &&& M) + (a &&& m) by omega, Nat.testBit_two_pow_mul_add Y ha, Nat.testBit_two_pow_mul_add M hm, Nat.testBit_two_pow_mul_add (Y &&& M) h1]
  by_cases h : i < 8
  · rw [if_pos h, if_pos h, if_pos h, Nat.testBit_and]
  · rw [if_neg h, if_neg h, if_neg h, Nat.testBit_and]
def pq_p1 (a : Nat) : Nat := a - (a / 2 &&& 85)
def pq_p2 (a : Nat) : Nat := (a &&& 51) + (a / 4 &&& 51)
def pq_p3 (a : Nat) : Nat := (a + a / 16) &&& 15
def pq_t1 (k X : Nat) : Nat := X - (X / 2 &&& pq_mk8 85 k)
def pq_t2 (k X : Nat) : Nat := (X &&& pq_mk8 51 k) + (X / 4 &&& pq_mk8 51 k)
def pq_t3 (k X : Nat) : Nat := (X + X / 16) &&& pq_mk8 15 k
theorem pq_d1 : ∀ a, a < 256 → ∀ y, y < 2 → ((a / 2 + 128 * y) &&& 85) = (a / 2 &&& 85) := by decide +kernel
theorem pq_d2 : ∀ a, a < 256 → ∀ y, y < 4 → ((a / 4 + 64 * y) &&& 51) = (a / 4 &&& 51) := by decide +kernel
theorem pq_d3 : ∀ a, a < 69 → ∀ y, y < 5 → ((a + a / 16 + 16 * y) &&& 15) = ((a + a / 16) &&& 15) := by decide +kernel
theorem pq_dp : ∀ a, a < 256 → pq_p1 a < 256 ∧ pq_p2 (pq_p1 a) < 69 ∧ pq_p2 (pq_p1 a) % 16 < 5 ∧ pq_p3 (pq_p2 (pq_p1 a)) ≤ 8 := by decide +kernel
theorem pq_t1_s {k a Y : Nat} (ha : a < 256) : pq_t1 (k + 1) (a + 256 * Y) = pq_p1 a + 256 * pq_t1 k Y := by
  unfold pq_t1 pq_p1
  show a + 256 * Y - ((a + 256 * Y) / 2 &&& (85 + 256 * pq_mk8 85 k)) = _
  rw [show (a + 256 * Y) / 2 = (a / 2 + 128 * (Y % 2)) + 256 * (Y / 2) by omega, pq_as8 (by omega) (by decide), pq_d1 a ha (Y % 2) (by omega)]
  have u1 : (a / 2 &&& 85) ≤ a / 2 := Nat.and_le_left
  have u2 : (Y / 2 &&& pq_mk8 85 k) ≤ Y / 2 := Nat.and_le_left
  omega
theorem pq_t2_s {k a Y : Nat} (ha : a < 256) : pq_t2 (k + 1) (a + 256 * Y) = pq_p2 a + 256 * pq_t2 k Y := by
  unfold pq_t2 pq_p2
  show ((a + 256 * Y) &&& (51 + 256 * pq_mk8 51 k)) + ((a + 256 * Y) / 4 &&& (51 + 256 * pq_mk8 51 k)) = _
  rw [show (a + 256 * Y) / 4 = (a / 4 + 64 * (Y % 4)) + 256 * (Y / 4) by omega, pq_as8 ha (by decide), pq_as8 (by omega) (by decide), pq_d2 a ha (Y % 4) (by omega)]
  omega
theorem pq_t3_s {k a Y : Nat} (ha : a < 69) (hY : Y % 16 < 5) : pq_t3 (k + 1) (a + 256 * Y) = pq_p3 a + 256 * pq_t3 k Y := by
  unfold pq_t3 pq_p3
  show ((a + 256 * Y) + (a + 256 * Y) / 16) &&& (15 + 256 * pq_mk8 15 k) = _
  rw [show (a + 256 * Y) + (a + 256 * Y) / 16 = (a + a / 16 + 16 * (Y % 16)) + 256 * (Y + Y / 16) by omega, pq_as8 (by omega) (by decide), pq_d3 a ha (Y % 16) hY]
def pq_pB (a : Nat) : Nat := pq_p3 (pq_p2 (pq_p1 a))
def pq_sp (X : Nat) : Nat → Nat
  | 0 => 0
  | k + 1 => pq_pB (X % 256) + 256 * pq_sp (X / 256) k
theorem pq_t2m : ∀ {k Y : Nat}, Y < 256 ^ k → pq_t2 k (pq_t1 k Y) % 16 < 5
  | 0, Y, h => by
    have : Y = 0 := by simpa using h
    subst this; decide
  | k + 1, Y, h => by
    have hd := pq_dp (Y % 256) (Nat.mod_lt _ (by decide))
    have e : Y = Y % 256 + 256 * (Y / 256) := by omega
    rw [e, pq_t1_s (Nat.mod_lt _ (by decide)), pq_t2_s hd.1]
    omega
theorem pq_T_s : ∀ {k X : Nat}, X < 256 ^ k → pq_t3 k (pq_t2 k (pq_t1 k X)) = pq_sp X k
  | 0, X, h => by
    have : X = 0 := by simpa using h
    subst this; decide
  | k + 1, X, h => by
    have hd := pq_dp (X % 256) (Nat.mod_lt _ (by decide))
    have e : X = X % 256 + 256 * (X / 256) := by omega
    have hq : X / 256 < 256 ^ k := by rw [Nat.pow_succ] at h; omega
    show pq_t3 (k + 1) (pq_t2 (k + 1) (pq_t1 (k + 1) X)) = pq_pB (X % 256) + 256 * pq_sp (X / 256) k
    rw [← pq_T_s hq]
    conv => lhs; rw [e]
    rw [pq_t1_s (Nat.mod_lt _ (by decide)), pq_t2_s hd.1, pq_t3_s hd.2.1 (pq_t2m hq)]
    rfl
theorem pq_pB8 : ∀ a, a < 256 → pq_pB a = ct (fun i => a.testBit i) 8 ∧ pq_pB a ≤ 8 := by decide +kernel
theorem ct_split (P : Nat → Bool) (m : Nat) : ∀ n, ct P (m + n) = ct P m + ct (fun i => P (m + i)) n
  | 0 => rfl
  | n + 1 => by
    show ct P (m + n) + _ = ct P m + (ct (fun i => P (m + i)) n + _)
    rw [ct_split P m n, Nat.add_assoc]
    rfl
theorem ct_b (X : Nat) : ct (fun i => X.testBit i) 8 = pq_pB (X % 256) := by
  rw [(pq_pB8 (X % 256) (Nat.mod_lt _ (by decide))).1]
  apply ct_cong
  intro i hi
  rw [show (256 : Nat) = 2 ^ 8 by decide, Nat.testBit_mod_two_pow]; simp [hi]
theorem ct_d (X n : Nat) : ct (fun i => X.testBit (8 + i)) n = ct (fun i => (X / 256).testBit i) n := by
  apply ct_cong
  intro i _
  rw [show (256 : Nat) = 2 ^ 8 by decide, Nat.testBit_div_two_pow, Nat.add_comm]
theorem ct_64 (X : Nat) : ct (fun i => X.testBit i) 64 = pq_pB (X % 256) + (pq_pB (X / 256 % 256) + (pq_pB (X / 256 / 256 % 256) + (pq_pB (X / 256 / 256 / 256 % 256) + (pq_pB (X / 256 / 256 / 256 / 256 % 256) + (pq_pB (X / 256 / 256 / 256 / 256 / 256 % 256) + (pq_pB (X / 256 / 256 / 256 / 256 / 256 / 256 % 256) + pq_pB (X / 256 / 256 / 256 / 256 / 256 / 256 / 256 % 256))))))) := by
  rw [show (64 : Nat) = 8 + 56 by decide, ct_split, ct_b, ct_d, show (56 : Nat) = 8 + 48 by decide, ct_split, ct_b, ct_d, show (48 : Nat) = 8 + 40 by decide, ct_split, ct_b, ct_d, show (40 : Nat) = 8 + 32 by decide, ct_split, ct_b, ct_d, show (32 : Nat) = 8 + 24 by decide, ct_split, ct_b, ct_d, show (24 : Nat) = 8 + 16 by decide, ct_split, ct_b, ct_d, show (16 : Nat) = 8 + 8 by decide, ct_split, ct_b, ct_d, ct_b]
def pq_f4 (x : Nat) : Nat := x + x / 256
def pq_f5 (x : Nat) : Nat := pq_f4 x + pq_f4 x / 65536
def pq_f6 (x : Nat) : Nat := pq_f5 x + pq_f5 x / 4294967296
theorem pq_f6_s {a b c d e f g h : Nat} (ha : a ≤ 8) (hb : b ≤ 8) (hc : c ≤ 8) (hd : d ≤ 8) (he : e ≤ 8) (hf : f ≤ 8) (hg : g ≤ 8) (hh : h ≤ 8) : pq_f6 (a + 256 * (b + 256 * (c + 256 * (d + 256 * (e + 256 * (f + 256 * (g + 256 * (h + 256 * 0)))))))) % 128 = a + (b + (c + (d + (e + (f + (g + h)))))) ∧ pq_f6 (a + 256 * (b + 256 * (c + 256 * (d + 256 * (e + 256 * (f + 256 * (g + 256 * (h + 256 * 0)))))))) < 2 ^ 64 := by
  have e4 : pq_f4 (a + 256 * (b + 256 * (c + 256 * (d + 256 * (e + 256 * (f + 256 * (g + 256 * (h + 256 * 0)))))))) = (a + b) + 256 * ((b + c) + 256 * ((c + d) + 256 * ((d + e) + 256 * ((e + f) + 256 * ((f + g) + 256 * ((g + h) + 256 * h)))))) := by unfold pq_f4; omega
  have e5 : pq_f5 (a + 256 * (b + 256 * (c + 256 * (d + 256 * (e + 256 * (f + 256 * (g + 256 * (h + 256 * 0)))))))) = (a + b + c + d) + 256 * ((b + c + d + e) + 256 * ((c + d + e + f) + 256 * ((d + e + f + g) + 256 * ((e + f + g + h) + 256 * ((f + g + h) + 256 * ((g + h) + 256 * h)))))) := by unfold pq_f5; rw [e4]; omega
  unfold pq_f6
  rw [e5]
  have e6 : ((a + b + c + d) + 256 * ((b + c + d + e) + 256 * ((c + d + e + f) + 256 * ((d + e + f + g) + 256 * ((e + f + g + h) + 256 * ((f + g + h) + 256 * ((g + h) + 256 * h))))))) / 4294967296 = (e + f + g + h) + 256 * ((f + g + h) + 256 * ((g + h) + 256 * h)) := by omega
  rw [e6]
  constructor
  · omega
  · omega
theorem pq_bc_n {X : Nat} (hX : X < 2 ^ 64) : pq_f6 (pq_t3 8 (pq_t2 8 (pq_t1 8 X))) % 128 = ct (fun i => X.testBit i) 64 ∧ pq_f6 (pq_t3 8 (pq_t2 8 (pq_t1 8 X))) < 2 ^ 64 := by
  rw [pq_T_s (show X < 256 ^ 8 by omega), ct_64]
  exact pq_f6_s (pq_pB8 _ (Nat.mod_lt _ (by decide))).2 (pq_pB8 _ (Nat.mod_lt _ (by decide))).2 (pq_pB8 _ (Nat.mod_lt _ (by decide))).2 (pq_pB8 _ (Nat.mod_lt _ (by decide))).2 (pq_pB8 _ (Nat.mod_lt _ (by decide))).2 (pq_pB8 _ (Nat.mod_lt _ (by decide))).2 (pq_pB8 _ (Nat.mod_lt _ (by decide))).2 (pq_pB8 _ (Nat.mod_lt _ (by decide))).2
