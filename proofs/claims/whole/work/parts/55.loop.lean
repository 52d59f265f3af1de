theorem hk_sw0_28 (x : Int32) : x = 0 ∨ x = 1 ∨ x = 2 ∨ x = 3 ∨ x = 4 ∨ x = 5 ∨ x = 6 ∨ x = 7 ∨ x = 8 ∨ x = 9 ∨ x = 10 ∨ x = 11 ∨ x = 12 ∨ x = 13 ∨ x = 14 ∨ x = 15 ∨ x = 16 ∨ x = 17 ∨ x = 18 ∨ x = 19 ∨ x = 20 ∨ x = 21 ∨ x = 22 ∨ x = 23 ∨ x = 24 ∨ x = 25 ∨ x = 26 ∨ x = 27 ∨ x = 28 ∨ (x.toInt < 0 ∨ 28 < x.toInt) := by
  have h : ∀ k : Int32, x.toInt = k.toInt → x = k := fun k h => Int32.toInt_inj.mp h
  by_cases h1 : x.toInt < 0 ∨ 28 < x.toInt
  · simp [h1]
  · have : x.toInt = 0 ∨ x.toInt = 1 ∨ x.toInt = 2 ∨ x.toInt = 3 ∨ x.toInt = 4 ∨ x.toInt = 5 ∨ x.toInt = 6 ∨ x.toInt = 7 ∨ x.toInt = 8 ∨ x.toInt = 9 ∨ x.toInt = 10 ∨ x.toInt = 11 ∨ x.toInt = 12 ∨ x.toInt = 13 ∨ x.toInt = 14 ∨ x.toInt = 15 ∨ x.toInt = 16 ∨ x.toInt = 17 ∨ x.toInt = 18 ∨ x.toInt = 19 ∨ x.toInt = 20 ∨ x.toInt = 21 ∨ x.toInt = 22 ∨ x.toInt = 23 ∨ x.toInt = 24 ∨ x.toInt = 25 ∨ x.toInt = 26 ∨ x.toInt = 27 ∨ x.toInt = 28 := by omega
    rcases this with q | q | q | q | q | q | q | q | q | q | q | q | q | q | q | q | q | q | q | q | q | q | q | q | q | q | q | q | q
    · exact Or.inl (h 0 (by rw [q]; rfl))
    · exact Or.inr (Or.inl (h 1 (by rw [q]; rfl)))
    · exact Or.inr (Or.inr (Or.inl (h 2 (by rw [q]; rfl))))
    · exact Or.inr (Or.inr (Or.inr (Or.inl (h 3 (by rw [q]; rfl)))))
    · exact Or.inr (Or.inr (Or.inr (Or.inr (Or.inl (h 4 (by rw [q]; rfl))))))
    · exact Or.inr (Or.inr (Or.inr (Or.inr (Or.inr (Or.inl (h 5 (by rw [q]; rfl)))))))
    · exact Or.inr (Or.inr (Or.inr (Or.inr (Or.inr (Or.inr (Or.inl (h 6 (by rw [q]; rfl))))))))
    · exact Or.inr (Or.inr (Or.inr (Or.inr (Or.inr (Or.inr (Or.inr (Or.inl (h 7 (by rw [q]; rfl)))))))))
    · exact Or.inr (Or.inr (Or.inr (Or.inr (Or.inr (Or.inr (Or.inr (Or.inr (Or.inl (h 8 (by rw [q]; rfl))))))))))
    · exact Or.inr (Or.inr (Or.inr (Or.inr (Or.inr (Or.inr (Or.inr (Or.inr (Or.inr (Or.inl (h 9 (by rw [q]; rfl)))))))))))
    · exact Or.inr (Or.inr (Or.inr (Or.inr (Or.inr (Or.inr (Or.inr (Or.inr (Or.inr (Or.inr (Or.inl (h 10 (by rw [q]; rfl))))))))))))
    · exact Or.inr (Or.inr (Or.inr (Or.inr (Or.inr (Or.inr (Or.inr (Or.inr (Or.inr (Or.inr (Or.inr (Or.inl (h 11 (by rw [q]; rfl)))))))))))))
    · exact Or.inr (Or.inr (Or.inr (Or.inr (Or.inr (Or.inr (Or.inr (Or.inr (Or.inr (Or.inr (Or.inr (Or.inr (Or.inl (h 12 (by rw [q]; rfl))))))))))))))
    · exact Or.inr (Or.inr (Or.inr (Or.inr (Or.inr (Or.inr (Or.inr (Or.inr (Or.inr (Or.inr (Or.inr (Or.inr (Or.inr (Or.inl (h 13 (by rw [q]; rfl)))))))))))))))
    · exact Or.inr (Or.inr (Or.inr (Or.inr (Or.inr (Or.inr (Or.inr (Or.inr (Or.inr (Or.inr (Or.inr (Or.inr (Or.inr (Or.inr (Or.inl (h 14 (by rw [q]; rfl))))))))))))))))
    · exact Or.inr (Or.inr (Or.inr (Or.inr (Or.inr (Or.inr (Or.inr (Or.inr (Or.inr (Or.inr (Or.inr (Or.inr (Or.inr (Or.inr (Or.inr (Or.inl (h 15 (by rw [q]; rfl)))))))))))))))))
    · exact Or.inr (Or.inr (Or.inr (Or.inr (Or.inr (Or.inr (Or.inr (Or.inr (Or.inr (Or.inr (Or.inr (Or.inr (Or.inr (Or.inr (Or.inr (Or.inr (Or.inl (h 16 (by rw [q]; rfl))))))))))))))))))
    · exact Or.inr (Or.inr (Or.inr (Or.inr (Or.inr (Or.inr (Or.inr (Or.inr (Or.inr (Or.inr (Or.inr (Or.inr (Or.inr (Or.inr (Or.inr (Or.inr (Or.inr (Or.inl (h 17 (by rw [q]; rfl)))))))))))))))))))
    · exact Or.inr (Or.inr (Or.inr (Or.inr (Or.inr (Or.inr (Or.inr (Or.inr (Or.inr (Or.inr (Or.inr (Or.inr (Or.inr (Or.inr (Or.inr (Or.inr (Or.inr (Or.inr (Or.inl (h 18 (by rw [q]; rfl))))))))))))))))))))
    · exact Or.inr (Or.inr (Or.inr (Or.inr (Or.inr (Or.inr (Or.inr (Or.inr (Or.inr (Or.inr (Or.inr (Or.inr (Or.inr (Or.inr (Or.inr (Or.inr (Or.inr (Or.inr (Or.inr (Or.inl (h 19 (by rw [q]; rfl)))))))))))))))))))))
    · exact Or.inr (Or.inr (Or.inr (Or.inr (Or.inr (Or.inr (Or.inr (Or.inr (Or.inr (Or.inr (Or.inr (Or.inr (Or.inr (Or.inr (Or.inr (Or.inr (Or.inr (Or.inr (Or.inr (Or.inr (Or.inl (h 20 (by rw [q]; rfl))))))))))))))))))))))
    · exact Or.inr (Or.inr (Or.inr (Or.inr (Or.inr (Or.inr (Or.inr (Or.inr (Or.inr (Or.inr (Or.inr (Or.inr (Or.inr (Or.inr (Or.inr (Or.inr (Or.inr (Or.inr (Or.inr (Or.inr (Or.inr (Or.inl (h 21 (by rw [q]; rfl)))))))))))))))))))))))
    · exact Or.inr (Or.inr (Or.inr (Or.inr (Or.inr (Or.inr (Or.inr (Or.inr (Or.inr (Or.inr (Or.inr (Or.inr (Or.inr (Or.inr (Or.inr (Or.inr (Or.inr (Or.inr (Or.inr (Or.inr (Or.inr (Or.inr (Or.inl (h 22 (by rw [q]; rfl))))))))))))))))))))))))
    · exact Or.inr (Or.inr (Or.inr (Or.inr (Or.inr (Or.inr (Or.inr (Or.inr (Or.inr (Or.inr (Or.inr (Or.inr (Or.inr (Or.inr (Or.inr (Or.inr (Or.inr (Or.inr (Or.inr (Or.inr (Or.inr (Or.inr (Or.inr (Or.inl (h 23 (by rw [q]; rfl)))))))))))))))))))))))))
    · exact Or.inr (Or.inr (Or.inr (Or.inr (Or.inr (Or.inr (Or.inr (Or.inr (Or.inr (Or.inr (Or.inr (Or.inr (Or.inr (Or.inr (Or.inr (Or.inr (Or.inr (Or.inr (Or.inr (Or.inr (Or.inr (Or.inr (Or.inr (Or.inr (Or.inl (h 24 (by rw [q]; rfl))))))))))))))))))))))))))
    · exact Or.inr (Or.inr (Or.inr (Or.inr (Or.inr (Or.inr (Or.inr (Or.inr (Or.inr (Or.inr (Or.inr (Or.inr (Or.inr (Or.inr (Or.inr (Or.inr (Or.inr (Or.inr (Or.inr (Or.inr (Or.inr (Or.inr (Or.inr (Or.inr (Or.inr (Or.inl (h 25 (by rw [q]; rfl)))))))))))))))))))))))))))
    · exact Or.inr (Or.inr (Or.inr (Or.inr (Or.inr (Or.inr (Or.inr (Or.inr (Or.inr (Or.inr (Or.inr (Or.inr (Or.inr (Or.inr (Or.inr (Or.inr (Or.inr (Or.inr (Or.inr (Or.inr (Or.inr (Or.inr (Or.inr (Or.inr (Or.inr (Or.inr (Or.inl (h 26 (by rw [q]; rfl))))))))))))))))))))))))))))
    · exact Or.inr (Or.inr (Or.inr (Or.inr (Or.inr (Or.inr (Or.inr (Or.inr (Or.inr (Or.inr (Or.inr (Or.inr (Or.inr (Or.inr (Or.inr (Or.inr (Or.inr (Or.inr (Or.inr (Or.inr (Or.inr (Or.inr (Or.inr (Or.inr (Or.inr (Or.inr (Or.inr (Or.inl (h 27 (by rw [q]; rfl)))))))))))))))))))))))))))))
    · exact Or.inr (Or.inr (Or.inr (Or.inr (Or.inr (Or.inr (Or.inr (Or.inr (Or.inr (Or.inr (Or.inr (Or.inr (Or.inr (Or.inr (Or.inr (Or.inr (Or.inr (Or.inr (Or.inr (Or.inr (Or.inr (Or.inr (Or.inr (Or.inr (Or.inr (Or.inr (Or.inr (Or.inr (Or.inl (h 28 (by rw [q]; rfl))))))))))))))))))))))))))))))
theorem lc_end {a i : Nat} (ha : a ≤ 2560) (hi : i ≤ 2560) (h : ¬ nI a - 5 < nI i) : i + 5 ≤ a := by
  have e := pk_sub_toInt (a := a) (b := 5) (by omega) (by decide)
  apply Classical.byContradiction
  intro q
  apply h
  apply Int32.lt_iff_toInt_lt.mpr
  have e2 : (nI a - 5).toInt = (a : Int) - 5 := e
  rw [e2, nI_toInt (by omega)]
  omega
set_option maxHeartbeats 4000000 in
set_option maxRecDepth 100000 in
theorem lc_loop {p : Program} {l : Launch} {e : Env} {s : State} {m : MethodId} {below : List Frame} {meth : Method} {c : Code} {D : va_G} {g : hk_G} {ti b Ls : Nat} {xs : Nat → Int32} {ad : Nat → Nat} (B : lw_B p s m meth c b Ls xs D g ti) (hLs : Ls ≤ 2560) : ∀ (f i : Nat), i ≤ Ls → Ls < i + f → lw_J p l e s m below meth c D g ad b i 18 := by
  obtain ⟨hx, hb, hr, hml, hown, hts, hX, hbl, hlocks, hE⟩ := id B
  have hbA : ¬ (fun q : Nat => s.heap.size ≤ q) b := Nat.not_le.mpr hbl
  intro f
  induction f with
  | zero => intro i h1 h2; exact absurd h2 (by omega)
  | succ f ih =>
  intro i h1 h2 H locs ls hI hl
  have hS : va_S (fun q : Nat => s.heap.size ≤ q) s.heap H locs := by
    exact lw_open hI (fun tx L fc kc po es rs fn dn dN do_ dnm dcd dwt dft dfa dfb dfo n N o nm cd wt ft fa fb fo nx cu Hn HN Ho Hnm Hcd Hwt Hft Hfa Hfb Hfo nc oc rc tl ef fs fr fk fx fv fe sp rx wx hP hD hS hT1 hcn hT2 hV hJ hH => hS)
  refine lv_iload_n hx hb dL_law_18 rfl (lv_at hl 3 rfl) ?_
  refine lv_aload_n hx hb dL_law_19 rfl (lv_at hl 0 rfl) ?_
  refine va_slen hx hb hX hbl hbA hS dL_law_20 ?_
  refine lv_iconst (v := 5) hx hb dL_law_21 (by decide) ?_
  refine lv_isub hx hb dL_law_22 ?_
  refine lv_icmp_gt (tgt := 827) hx hb dL_law_23 (by decide) (fun c9 => ?_) (fun c9 => ?_)
  · refine lv_iconst (v := 1) hx hb dL_law_827 (by decide) ?_
    refine va_forget (fun q hq => hS.2.2 q hq) ?_
    refine W.widen (k := 600000) (n := 7302249) (Nat.le_of_ble_eq_true rfl) (Nat.le_of_ble_eq_true rfl) ?_
    exact lw_ret hx hb hr hlocks dL_law_828
  · have h5 : i + 5 ≤ Ls := lc_end hLs (by omega) c9
    have K : lw_J p l e s m below meth c D g ad b i 821 := by
      intro H locs ls hI hl
      refine lv_iinc (v := nI (i + 5)) (lv' := [(3, .int (nI (i + 5))), (0, .ref b), (1, .ref (ad 0)), (2, .ref (ad 48))]) hx hb dL_law_821 hl (k := 3) rfl (nI_add i 5) (by decide) rfl (fun ls hl => ?_)
      refine lv_goto (tgt := 18) hx hb dL_law_824 (by decide) ?_
      exact ih (i + 5) h5 (by omega) H locs ls hI (lv_sub hl [1, 2, 3, 0] rfl)
    refine lv_aload_n hx hb dL_law_26 rfl (lv_at hl 0 rfl) ?_
    refine lv_iload_n hx hb dL_law_27 rfl (lv_at hl 3 rfl) ?_
    refine va_sld hx hb hX hbl hbA hS (vp_in_nI (N := Ls) (by omega) (by omega)) dL_law_28 ?_
    refine lv_bipush (v := 31) hx hb dL_law_29 (by decide) ?_
    refine lv_iand hx hb dL_law_31 ?_
    rcases hk_sw0_28 (xs (nI i).toNatClampNeg &&& 31) with q | q | q | q | q | q | q | q | q | q | q | q | q | q | q | q | q | q | q | q | q | q | q | q | q | q | q | q | q | q
    · refine hk_ti 0 q ?_
      refine lv_tableIn (tgt := 164) (off := 132) hx hb dL_law_32 (by decide) (by decide) rfl (by decide) ?_
      exact lc_0 B hLs h5 K H locs ls hI hl
    · refine hk_ti 1 q ?_
      refine lv_tableIn (tgt := 187) (off := 155) hx hb dL_law_32 (by decide) (by decide) rfl (by decide) ?_
      exact lc_1 B hLs h5 K H locs ls hI hl
    · refine hk_ti 2 q ?_
      refine lv_tableIn (tgt := 200) (off := 168) hx hb dL_law_32 (by decide) (by decide) rfl (by decide) ?_
      exact lc_2 B hLs h5 K H locs ls hI hl
    · refine hk_ti 3 q ?_
      refine lv_tableIn (tgt := 213) (off := 181) hx hb dL_law_32 (by decide) (by decide) rfl (by decide) ?_
      exact lc_3 B hLs h5 K H locs ls hI hl
    · refine hk_ti 4 q ?_
      refine lv_tableIn (tgt := 226) (off := 194) hx hb dL_law_32 (by decide) (by decide) rfl (by decide) ?_
      exact lc_4 B hLs h5 K H locs ls hI hl
    · refine hk_ti 5 q ?_
      refine lv_tableIn (tgt := 239) (off := 207) hx hb dL_law_32 (by decide) (by decide) rfl (by decide) ?_
      exact lc_5 B hLs h5 K H locs ls hI hl
    · refine hk_ti 6 q ?_
      refine lv_tableIn (tgt := 282) (off := 250) hx hb dL_law_32 (by decide) (by decide) rfl (by decide) ?_
      exact lc_6 B hLs h5 K H locs ls hI hl
    · refine hk_ti 7 q ?_
      refine lv_tableIn (tgt := 335) (off := 303) hx hb dL_law_32 (by decide) (by decide) rfl (by decide) ?_
      exact lc_7 B hLs h5 K H locs ls hI hl
    · refine hk_ti 8 q ?_
      refine lv_tableIn (tgt := 368) (off := 336) hx hb dL_law_32 (by decide) (by decide) rfl (by decide) ?_
      exact lc_8 B hLs h5 K H locs ls hI hl
    · refine hk_ti 9 q ?_
      refine lv_tableIn (tgt := 381) (off := 349) hx hb dL_law_32 (by decide) (by decide) rfl (by decide) ?_
      exact lc_9 B hLs h5 K H locs ls hI hl
    · refine hk_ti 10 q ?_
      refine lv_tableIn (tgt := 404) (off := 372) hx hb dL_law_32 (by decide) (by decide) rfl (by decide) ?_
      exact lc_10 B hLs h5 K H locs ls hI hl
    · refine hk_ti 11 q ?_
      refine lv_tableIn (tgt := 417) (off := 385) hx hb dL_law_32 (by decide) (by decide) rfl (by decide) ?_
      exact lc_11 B hLs h5 K H locs ls hI hl
    · refine hk_ti 12 q ?_
      refine lv_tableIn (tgt := 450) (off := 418) hx hb dL_law_32 (by decide) (by decide) rfl (by decide) ?_
      exact lc_12 B hLs h5 K H locs ls hI hl
    · refine hk_ti 13 q ?_
      refine lv_tableIn (tgt := 483) (off := 451) hx hb dL_law_32 (by decide) (by decide) rfl (by decide) ?_
      exact lc_13 B hLs h5 K H locs ls hI hl
    · refine hk_ti 14 q ?_
      refine lv_tableIn (tgt := 496) (off := 464) hx hb dL_law_32 (by decide) (by decide) rfl (by decide) ?_
      exact lc_14 B hLs h5 K H locs ls hI hl
    · refine hk_ti 15 q ?_
      refine lv_tableIn (tgt := 509) (off := 477) hx hb dL_law_32 (by decide) (by decide) rfl (by decide) ?_
      exact lc_15 B hLs h5 K H locs ls hI hl
    · refine hk_ti 16 q ?_
      refine lv_tableIn (tgt := 532) (off := 500) hx hb dL_law_32 (by decide) (by decide) rfl (by decide) ?_
      exact lc_16 B hLs h5 K H locs ls hI hl
    · refine hk_ti 17 q ?_
      refine lv_tableIn (tgt := 565) (off := 533) hx hb dL_law_32 (by decide) (by decide) rfl (by decide) ?_
      exact lc_17 B hLs h5 K H locs ls hI hl
    · refine hk_ti 18 q ?_
      refine lv_tableIn (tgt := 588) (off := 556) hx hb dL_law_32 (by decide) (by decide) rfl (by decide) ?_
      exact lc_18 B hLs h5 K H locs ls hI hl
    · refine hk_ti 19 q ?_
      refine lv_tableIn (tgt := 611) (off := 579) hx hb dL_law_32 (by decide) (by decide) rfl (by decide) ?_
      exact lc_19 B hLs h5 K H locs ls hI hl
    · refine hk_ti 20 q ?_
      refine lv_tableIn (tgt := 644) (off := 612) hx hb dL_law_32 (by decide) (by decide) rfl (by decide) ?_
      exact lc_20 B hLs h5 K H locs ls hI hl
    · refine hk_ti 21 q ?_
      refine lv_tableIn (tgt := 667) (off := 635) hx hb dL_law_32 (by decide) (by decide) rfl (by decide) ?_
      exact lc_21 B hLs h5 K H locs ls hI hl
    · refine hk_ti 22 q ?_
      refine lv_tableIn (tgt := 700) (off := 668) hx hb dL_law_32 (by decide) (by decide) rfl (by decide) ?_
      exact lc_22 B hLs h5 K H locs ls hI hl
    · refine hk_ti 23 q ?_
      refine lv_tableIn (tgt := 723) (off := 691) hx hb dL_law_32 (by decide) (by decide) rfl (by decide) ?_
      exact lc_23 B hLs h5 K H locs ls hI hl
    · refine hk_ti 24 q ?_
      refine lv_tableIn (tgt := 746) (off := 714) hx hb dL_law_32 (by decide) (by decide) rfl (by decide) ?_
      exact lc_24 B hLs h5 K H locs ls hI hl
    · refine hk_ti 25 q ?_
      refine lv_tableIn (tgt := 759) (off := 727) hx hb dL_law_32 (by decide) (by decide) rfl (by decide) ?_
      exact lc_25 B hLs h5 K H locs ls hI hl
    · refine hk_ti 26 q ?_
      refine lv_tableIn (tgt := 772) (off := 740) hx hb dL_law_32 (by decide) (by decide) rfl (by decide) ?_
      exact lc_26 B hLs h5 K H locs ls hI hl
    · refine hk_ti 27 q ?_
      refine lv_tableIn (tgt := 785) (off := 753) hx hb dL_law_32 (by decide) (by decide) rfl (by decide) ?_
      exact lc_27 B hLs h5 K H locs ls hI hl
    · refine hk_ti 28 q ?_
      refine lv_tableIn (tgt := 798) (off := 766) hx hb dL_law_32 (by decide) (by decide) rfl (by decide) ?_
      exact lc_28 B hLs h5 K H locs ls hI hl
    · refine lv_tableOut (tgt := 821) hx hb dL_law_32 q (by decide) ?_
      exact K H locs ls hI hl
theorem m0_V : V0.1 = 4 ∧ V0.2.1 = 10 ∧ V0.2.2.1 = 2 ∧ nmV V0 = 1632 := by decide +kernel
theorem m0_g : ∀ j, j < 10 → 4 ≤ j → m0 (2 + 3 * (j - 4)) = nI (V0.2.2.2.1 j) ∧ V0.2.2.2.1 j ≤ 5 ∧ m0 (2 + 3 * (j - 4) + 1) = nI (V0.2.2.2.2.1 j) ∧ V0.2.2.2.2.1 j < j ∧ (V0.2.2.2.1 j ≠ 5 → m0 (2 + 3 * (j - 4) + 2) = nI (V0.2.2.2.2.2.1 j) ∧ V0.2.2.2.2.2.1 j < j) := by decide +kernel
theorem m0_o : ∀ k, k < 2 → m0 (75 + k) = nI (V0.2.2.2.2.2.2.1 k) ∧ V0.2.2.2.2.2.2.1 k < 10 := by decide +kernel
theorem m0_w : ∀ w, w < 64 → m0 (83 + w) = bI (lb 1632 w) := by decide +kernel
theorem m0_M : MRw V0 1 0 m0 := by
  obtain ⟨h1, h2, h3, h4⟩ := m0_V
  unfold MRw MR
  rw [h1, h2, h3, h4]
  exact ⟨by decide +kernel, fun j hj hj2 => m0_g j hj2 hj, m0_o, m0_w⟩
theorem m0_J {n N o : Nat} {nm : Int64} {g1 g2 g3 g4 fs : Nat → Int32} (h : CRV V0 n N o nm g1 g2 g3 g4) (hs : ∀ j, j < 147 → fs j = m0 j) : jr_R n N o 1 0 nm g1 g2 g3 g4 fs := by
  have hM := m0_M
  have h4 := m0_V.1
  obtain ⟨ty, pa, pb, vo, e, hC⟩ := h
  rw [e] at hM h4
  have hn : n = 4 := h4
  exact jr_c (ft := g1) (fa := g2) (fb := g3) (fo := g4) (fs := m0) ⟨⟨by omega, hC.1.1, hC.1.2.1, hC.1.2.2.1, hC.1.2.2.2, by decide, by decide⟩, ty, pa, pb, vo, hC, hM⟩ (fun _ _ => rfl) (fun _ _ => rfl) (fun _ _ => rfl) (fun _ _ => rfl) hs
