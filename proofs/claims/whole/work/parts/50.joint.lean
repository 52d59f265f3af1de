/-! both sides hold one circuit; so do the kept ones -/
def jr_R (n N o cd wt : Nat) (nm : Int64) (ft fa fb fo fs : Nat → Int32) : Prop := Cok n N o cd wt ∧ ∃ ty pa pb vo : Nat → Nat, CR n N o ty pa pb vo nm ft fa fb fo ∧ MR n N o cd wt ty pa pb vo nm fs
theorem jr_c {n N o cd wt : Nat} {nm : Int64} {ft fa fb fo fs ft' fa' fb' fo' fs' : Nat → Int32} (h : jr_R n N o cd wt nm ft fa fb fo fs) (h1 : ∀ j, j < 30 → ft' j = ft j) (h2 : ∀ j, j < 30 → fa' j = fa j) (h3 : ∀ j, j < 30 → fb' j = fb j) (h4 : ∀ j, j < 6 → fo' j = fo j) (h5 : ∀ j, j < 147 → fs' j = fs j) : jr_R n N o cd wt nm ft' fa' fb' fo' fs' := by
  obtain ⟨hC, ty, pa, pb, vo, ⟨⟨c1, c2, c3, c4⟩, c5, c6, c7, c8⟩, ⟨m1, m2, m3, m4, m5⟩, m6, m7, m8⟩ := h
  refine ⟨hC, ty, pa, pb, vo, ⟨⟨c1, c2, c3, c4⟩, fun j hj => (h1 j (by omega)).trans (c5 j hj), fun j hj hj2 => ?_, fun k hk => ?_, c8⟩, ⟨(h5 0 (by decide)).trans m1, (h5 1 (by decide)).trans m2, (h5 74 (by decide)).trans m3, (h5 81 (by decide)).trans m4, (h5 82 (by decide)).trans m5⟩, fun j hj hj2 => ?_, fun k hk => ?_, fun w hw => (h5 _ (by omega)).trans (m8 w hw)⟩
  · rw [h1 j (by omega), h2 j (by omega), h3 j (by omega)]; exact c6 j hj hj2
  · rw [h4 k (by omega)]; exact c7 k hk
  · rw [h5 (2 + 3 * (j - n)) (by omega), h5 (2 + 3 * (j - n) + 1) (by omega), h5 (2 + 3 * (j - n) + 2) (by omega)]; exact m6 j hj hj2
  · rw [h5 (75 + k) (by omega)]; exact m7 k hk
def jr_sl (nx cu i : Nat) : Nat := (nx + 5 - cu + i) % 5
def jr_H (nx cu : Nat) (Hn HN Ho Hcd Hwt : Nat → Nat) (Hnm : Nat → Int64) (Hft Hfa Hfb Hfo : Nat → Nat → Int32) (fk : Nat → Int32) : Prop := nx < 5 ∧ cu ≤ 5 ∧ ∀ i, i < cu → jr_R (Hn (jr_sl nx cu i)) (HN (jr_sl nx cu i)) (Ho (jr_sl nx cu i)) (Hcd (jr_sl nx cu i)) (Hwt (jr_sl nx cu i)) (Hnm (jr_sl nx cu i)) (Hft (jr_sl nx cu i)) (Hfa (jr_sl nx cu i)) (Hfb (jr_sl nx cu i)) (Hfo (jr_sl nx cu i)) (fun j => fk (147 * i + j))
theorem jr_us {α : Type} {f : Nat → α} {i : Nat} {v : α} : va_up f i v i = v := if_pos rfl
theorem jr_un {α : Type} {f : Nat → α} {i j : Nat} {v : α} (h : ¬ j = i) : va_up f i v j = f j := if_neg h
theorem jr_Hs {nx cu : Nat} {Hn HN Ho Hcd Hwt : Nat → Nat} {Hnm : Nat → Int64} {Hft Hfa Hfb Hfo : Nat → Nat → Int32} {fk : Nat → Int32} (h : jr_H nx cu Hn HN Ho Hcd Hwt Hnm Hft Hfa Hfb Hfo fk) {n N o cd wt : Nat} {nm : Int64} {ft fa fb fo fs : Nat → Int32} (hJ : jr_R n N o cd wt nm ft fa fb fo fs) {g1 g2 g3 g4 f' : Nat → Int32} (h1 : ∀ j, j < 30 → g1 j = ft j) (h2 : ∀ j, j < 30 → g2 j = fa j) (h3 : ∀ j, j < 30 → g3 j = fb j) (h4 : ∀ j, j < 6 → g4 j = fo j) (hK : KP fk fs f' cu) : jr_H (if nx + 1 < 5 then nx + 1 else 0) (min (cu + 1) 5) (va_up Hn nx n) (va_up HN nx N) (va_up Ho nx o) (va_up Hcd nx cd) (va_up Hwt nx wt) (va_up Hnm nx nm) (va_up Hft nx g1) (va_up Hfa nx g2) (va_up Hfb nx g3) (va_up Hfo nx g4) f' := by
  obtain ⟨hx, hu, hh⟩ := h
  refine ⟨by split <;> omega, by omega, fun i hi => ?_⟩
  by_cases hc : cu < 5
  · obtain ⟨k1, k2⟩ := hK.1 hc
    by_cases e : i = cu
    · have es : jr_sl (if nx + 1 < 5 then nx + 1 else 0) (min (cu + 1) 5) i = nx := by unfold jr_sl; split <;> omega
      rw [es]
      simp only [jr_us]
      exact jr_c hJ h1 h2 h3 h4 (fun j hj => by show f' (147 * i + j) = fs j; rw [e]; exact k2 j hj)
    · have es : jr_sl (if nx + 1 < 5 then nx + 1 else 0) (min (cu + 1) 5) i = jr_sl nx cu i := by unfold jr_sl; split <;> omega
      have en : ¬ jr_sl nx cu i = nx := by unfold jr_sl; omega
      rw [es]
      simp only [jr_un en]
      exact jr_c (hh i (by omega)) (fun _ _ => rfl) (fun _ _ => rfl) (fun _ _ => rfl) (fun _ _ => rfl) (fun j hj => k1 _ (by omega))
  · obtain ⟨k1, k2⟩ := hK.2 (by omega)
    by_cases e : i = 4
    · have es : jr_sl (if nx + 1 < 5 then nx + 1 else 0) (min (cu + 1) 5) i = nx := by unfold jr_sl; split <;> omega
      rw [es]
      simp only [jr_us]
      exact jr_c hJ h1 h2 h3 h4 (fun j hj => by show f' (147 * i + j) = fs j; rw [e]; exact k2 j hj)
    · have es : jr_sl (if nx + 1 < 5 then nx + 1 else 0) (min (cu + 1) 5) i = jr_sl nx cu (i + 1) := by unfold jr_sl; split <;> omega
      have en : ¬ jr_sl nx cu (i + 1) = nx := by unfold jr_sl; omega
      rw [es]
      simp only [jr_un en]
      exact jr_c (hh (i + 1) (by omega)) (fun _ _ => rfl) (fun _ _ => rfl) (fun _ _ => rfl) (fun _ _ => rfl) (fun j hj => by show f' (147 * i + j) = fk (147 * (i + 1) + j); rw [k1 _ (by omega)]; congr 1; omega)
theorem jr_Hu {nx cu : Nat} {Hn HN Ho Hcd Hwt : Nat → Nat} {Hnm : Nat → Int64} {Hft Hfa Hfb Hfo : Nat → Nat → Int32} {fk : Nat → Int32} (h : jr_H nx cu Hn HN Ho Hcd Hwt Hnm Hft Hfa Hfb Hfo fk) (hc : 1 ≤ cu) {g1 g2 g3 g4 f' : Nat → Int32} (h1 : ∀ j, j < 30 → g1 j = Hft (if 0 < nx then nx - 1 else 4) j) (h2 : ∀ j, j < 30 → g2 j = Hfa (if 0 < nx then nx - 1 else 4) j) (h3 : ∀ j, j < 30 → g3 j = Hfb (if 0 < nx then nx - 1 else 4) j) (h4 : ∀ j, j < 6 → g4 j = Hfo (if 0 < nx then nx - 1 else 4) j) (h5 : ∀ j, j < 147 → f' j = fk (147 * (cu - 1) + j)) :
    jr_H (if 0 < nx then nx - 1 else 4) (cu - 1) Hn HN Ho Hcd Hwt Hnm Hft Hfa Hfb Hfo fk ∧ jr_R (Hn (if 0 < nx then nx - 1 else 4)) (HN (if 0 < nx then nx - 1 else 4)) (Ho (if 0 < nx then nx - 1 else 4)) (Hcd (if 0 < nx then nx - 1 else 4)) (Hwt (if 0 < nx then nx - 1 else 4)) (Hnm (if 0 < nx then nx - 1 else 4)) g1 g2 g3 g4 f' := by
  obtain ⟨hx, hu, hh⟩ := h
  refine ⟨⟨by split <;> omega, by omega, fun i hi => ?_⟩, ?_⟩
  · have es : jr_sl (if 0 < nx then nx - 1 else 4) (cu - 1) i = jr_sl nx cu i := by unfold jr_sl; split <;> omega
    rw [es]
    exact hh i (by omega)
  · have h0 := hh (cu - 1) (by omega)
    have es : jr_sl nx cu (cu - 1) = (if 0 < nx then nx - 1 else 4) := by unfold jr_sl; split <;> omega
    rw [es] at h0
    exact jr_c h0 h1 h2 h3 h4 h5
theorem jr_H0 {nx cu : Nat} {Hn HN Ho Hcd Hwt : Nat → Nat} {Hnm : Nat → Int64} {Hft Hfa Hfb Hfo : Nat → Nat → Int32} {fk fk' : Nat → Int32} (h : nx < 5) : jr_H nx 0 Hn HN Ho Hcd Hwt Hnm Hft Hfa Hfb Hfo fk' := ⟨h, Nat.zero_le _, fun i hi => absurd hi (Nat.not_lt_zero i)⟩
/-! the edits -/
theorem jr_G {n N o cd wt : Nat} {nm : Int64} {ft fa fb fo fs : Nat → Int32} (h : jr_R n N o cd wt nm ft fa fb fo fs) {t a b G : Nat} {y x : Int32} (hy : y = nI t) (ht : t ≤ 5) (ha : a < N) (hb : ¬ t = 5 → b < N ∧ x = nI b) (hr : N + 1 ≤ n + 24) (hG : G = N - n) : jr_R n (N + 1) o cd wt nm (upd ft N y) (upd fa N (nI a)) (upd fb N (if y = 5 then nI a else x)) fo (gU fs G y (nI a) x) := by
  obtain ⟨⟨c1, c2, c3, c4, c5, c6, c7⟩, ty, pa, pb, vo, hC, hM⟩ := h
  subst hG
  exact ⟨⟨c1, c2, by omega, hr, c5, c6, c7⟩, _, _, _, _, CR_G hC ht ha hb hr hy, MR_G hM c3 hr c5 ht ha hb hy⟩
theorem jr_O {n N o cd wt : Nat} {nm : Int64} {ft fa fb fo fs : Nat → Int32} (h : jr_R n N o cd wt nm ft fa fb fo fs) {v : Nat} (hv : v < N) (ho : o < 6) : jr_R n N (o + 1) cd wt nm ft fa fb (upd fo o (nI v)) (upd (upd fs (75 + o) (nI v)) 74 (nI (o + 1))) := by
  obtain ⟨⟨c1, c2, c3, c4, c5, c6, c7⟩, ty, pa, pb, vo, hC, hM⟩ := h
  exact ⟨⟨c1, c2, c3, c4, by omega, c6, c7⟩, _, _, _, _, CR_O hC hv ho, MR_O hM hv ho c4⟩
theorem jr_cl {n N o cd wt : Nat} {nm : Int64} {ft fa fb fo fs : Nat → Int32} (h : jr_R n N o cd wt nm ft fa fb fo fs) : jr_R n N 0 cd wt nm ft fa fb fo (upd fs 74 0) := by
  obtain ⟨⟨c1, c2, c3, c4, c5, c6, c7⟩, ty, pa, pb, vo, hC, ⟨m1, m2, m3, m4, m5⟩, m6, m7, m8⟩ := h
  refine ⟨⟨c1, c2, c3, c4, by omega, c6, c7⟩, ty, pa, pb, vo, ⟨⟨c2, c3, c4, by omega⟩, hC.2.1, hC.2.2.1, fun k hk => absurd hk (Nat.not_lt_zero k), hC.2.2.2.2⟩, ⟨by rw [pk_un (by decide)]; exact m1, by rw [pk_un (by decide)]; exact m2, pk_us, by rw [pk_un (by decide)]; exact m4, by rw [pk_un (by decide)]; exact m5⟩, fun j hj hj2 => ?_, fun k hk => absurd hk (Nat.not_lt_zero k), fun w hw => by rw [pk_un (by omega)]; exact m8 w hw⟩
  rw [pk_un (by omega), pk_un (by omega), pk_un (by omega)]; exact m6 j hj hj2
theorem jr_W1 {n N o cd wt : Nat} {nm : Int64} {ft fa fb fo fs : Nat → Int32} (h : jr_R n N o cd wt nm ft fa fb fo fs) {w : Nat} (hw : w < 2 ^ n) : jr_R n N o cd wt (nm ||| ((1 : Int64) <<< ((nI w).toInt64 &&& 63))) ft fa fb fo (upd fs (83 + w) 1) := by
  obtain ⟨hC0, ty, pa, pb, vo, hC, hM⟩ := h
  obtain ⟨c1, c2, c3, c4, c5, c6, c7⟩ := id hC0
  exact ⟨hC0, ty, pa, pb, vo, CR_W hC hw, MR_W hM (pw_64 c2 hw) c5 c4⟩
theorem jr_lb0 {nm : Int64} {w v : Nat} (hw : w < 64) (hv : v < 64) : lb (nm &&& (((1 : Int64) <<< ((nI w).toInt64 &&& 63)) ^^^ (-1 : Int64))) v = if v = w then false else lb nm v := by
  rw [lb_and, lb_not _ hv, lb_shl1 hw hv]
  by_cases e : v = w
  · rw [if_pos e, decide_eq_true e]; simp
  · rw [if_neg e, decide_eq_false e]; simp
theorem jr_lb1 {nm : Int64} {w v : Nat} (hw : w < 64) (hv : v < 64) : lb (nm ||| ((1 : Int64) <<< ((nI w).toInt64 &&& 63))) v = if v = w then true else lb nm v := by
  rw [lb_or, lb_shl1 hw hv]
  by_cases e : v = w
  · rw [if_pos e, decide_eq_true e]; simp
  · rw [if_neg e, decide_eq_false e]; simp
theorem jr_W0 {n N o cd wt : Nat} {nm : Int64} {ft fa fb fo fs : Nat → Int32} (h : jr_R n N o cd wt nm ft fa fb fo fs) {w : Nat} (hw : w < 2 ^ n) : jr_R n N o cd wt (nm &&& (((1 : Int64) <<< ((nI w).toInt64 &&& 63)) ^^^ (-1 : Int64))) ft fa fb fo (upd fs (83 + w) 0) := by
  obtain ⟨hC0, ty, pa, pb, vo, ⟨d1, d2, d3, d4, d5⟩, ⟨m1, m2, m3, m4, m5⟩, m6, m7, m8⟩ := h
  obtain ⟨c1, c2, c3, c4, c5, c6, c7⟩ := id hC0
  have hw6 := pw_64 c2 hw
  refine ⟨hC0, ty, pa, pb, vo, ⟨d1, d2, d3, d4, fun v hv => by rw [lb_and, d5 v hv]; rfl⟩, ⟨by rw [pk_un (by omega)]; exact m1, by rw [pk_un (by omega)]; exact m2, by rw [pk_un (by omega)]; exact m3, by rw [pk_un (by omega)]; exact m4, by rw [pk_un (by omega)]; exact m5⟩, fun j hj hj2 => ?_, fun k hk => by rw [pk_un (by omega)]; exact m7 k hk, fun v hv => ?_⟩
  · rw [pk_un (by omega), pk_un (by omega), pk_un (by omega)]; exact m6 j hj hj2
  · rw [jr_lb0 hw6 hv]
    by_cases e : v = w
    · subst e; rw [pk_us, if_pos rfl]; rfl
    · rw [pk_un (by omega), if_neg e]; exact m8 v hv
theorem jr_cd {n N o cd wt : Nat} {nm : Int64} {ft fa fb fo fs : Nat → Int32} (h : jr_R n N o cd wt nm ft fa fb fo fs) {c' w' : Nat} (hc : c' ≤ 3) (hw : w' ≤ 6) : jr_R n N o c' w' nm ft fa fb fo (upd (upd fs 81 (nI c')) 82 (nI w')) := by
  obtain ⟨⟨c1, c2, c3, c4, c5, c6, c7⟩, ty, pa, pb, vo, hC, ⟨m1, m2, m3, m4, m5⟩, m6, m7, m8⟩ := h
  refine ⟨⟨c1, c2, c3, c4, c5, hc, hw⟩, ty, pa, pb, vo, hC, ⟨by rw [pk_un (by decide), pk_un (by decide)]; exact m1, by rw [pk_un (by decide), pk_un (by decide)]; exact m2, by rw [pk_un (by decide), pk_un (by decide)]; exact m3, by rw [pk_un (by decide), pk_us], pk_us⟩, fun j hj hj2 => ?_, fun k hk => by rw [pk_un (by omega), pk_un (by omega)]; exact m7 k hk, fun v hv => by rw [pk_un (by omega), pk_un (by omega)]; exact m8 v hv⟩
  rw [pk_un (by omega), pk_un (by omega), pk_un (by omega), pk_un (by omega), pk_un (by omega), pk_un (by omega)]; exact m6 j hj hj2
theorem jr_rm {n N o cd wt : Nat} {nm : Int64} {ft fa fb fo fs : Nat → Int32} (h : jr_R n N o cd wt nm ft fa fb fo fs) (hg : n < N) (hO : ¬ ∃ k, k < o ∧ fo k = nI (N - 1)) : jr_R n (N - 1) o cd wt nm ft fa fb fo (upd fs 1 (nI (N - n - 1))) := by
  obtain ⟨⟨c1, c2, c3, c4, c5, c6, c7⟩, ty, pa, pb, vo, ⟨d1, d2, d3, d4, d5⟩, ⟨m1, m2, m3, m4, m5⟩, m6, m7, m8⟩ := h
  have hv : ∀ k, k < o → vo k < N - 1 := fun k hk => by
    have h1 := (d4 k hk).2
    have h2 : ¬ vo k = N - 1 := fun q => hO ⟨k, hk, by rw [(d4 k hk).1, q]⟩
    omega
  refine ⟨⟨c1, c2, by omega, by omega, c5, c6, c7⟩, ty, pa, pb, vo, ⟨⟨c2, by omega, by omega, c5⟩, d2, fun j hj hj2 => d3 j hj (by omega), fun k hk => ⟨(d4 k hk).1, hv k hk⟩, d5⟩, ⟨by rw [pk_un (by decide)]; exact m1, by rw [pk_us]; congr 1; omega, by rw [pk_un (by decide)]; exact m3, by rw [pk_un (by decide)]; exact m4, by rw [pk_un (by decide)]; exact m5⟩, fun j hj hj2 => ?_, fun k hk => by rw [pk_un (by omega)]; exact ⟨(m7 k hk).1, hv k hk⟩, fun v hv2 => by rw [pk_un (by omega)]; exact m8 v hv2⟩
  rw [pk_un (by omega), pk_un (by omega), pk_un (by omega)]; exact m6 j hj (by omega)
theorem pA_n1 {tx : Nat → Nat} {L : Nat} (hL : 0 < L) (hL2 : L ≤ 200) : ∀ (f p : Nat) (V : VT), VK V → (¬ p = 0 → 1 ≤ V.1) → (0 < f ∨ 1 ≤ V.1) → (pA tx L f p V).1 = -104 → 1 ≤ (pA tx L f p V).2.2.1
  | 0, p, V, _, _, h3, _ => by
    rcases h3 with q | q
    · exact absurd q (Nat.lt_irrefl 0)
    · exact q
  | f + 1, p, V, h1, h2, _, h4 => by
    rw [pA] at h4 ⊢
    by_cases hp : p < L
    · rw [if_pos hp] at h4 ⊢
      by_cases h0 : (pS tx L p V).1 = 0
      · rw [if_pos h0] at h4 ⊢
        have hv := VK_S h0 h1 h2
        exact pA_n1 hL hL2 f _ _ hv.1 (fun _ => hv.2) (Or.inr hv.2) h4
      · rw [if_neg h0] at h4
        exact absurd h4 (nI_n104 (by omega))
    · rw [if_neg hp]
      exact h2 (by omega)
theorem jr_cf {n N o cd wt n' N' o' : Nat} {nm m' : Int64} {ft fa fb fo fs g1 g2 g3 g4 s' : Nat → Int32} {P : VT} (h : jr_R n N o cd wt nm ft fa fb fo fs) (hC : CRV (VN P) n' N' o' m' g1 g2 g3 g4) (hM : MRw (VN P) cd wt s') (h1 : 1 ≤ P.1) : jr_R n' N' o' cd wt m' g1 g2 g3 g4 s' := by
  obtain ⟨⟨c1, c2, c3, c4, c5, c6, c7⟩, -⟩ := h
  obtain ⟨ty, pa, pb, vo, e, hC2⟩ := hC
  have hn : (VN P).1 = P.1 := by obtain ⟨n, N, o, ty, pa, pb, vo, nm⟩ := P; rfl
  rw [e] at hM hn
  exact ⟨⟨by have : n' = P.1 := hn; omega, hC2.1.1, hC2.1.2.1, hC2.1.2.2.1, hC2.1.2.2.2, c6, c7⟩, ty, pa, pb, vo, hC2, hM⟩
theorem jr_any (x : Int32) : ∃ k, x = nI k := ⟨x.toBitVec.toNat, by apply Int32.toBitVec_inj.mp; show _ = BitVec.ofNat 32 x.toBitVec.toNat; simp⟩
