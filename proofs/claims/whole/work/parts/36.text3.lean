theorem n1_k {tx : Nat → Nat} {L p : Nat} {r k : Int32} {q : Nat} {f : Nat → Int32} (h : N1 tx L p r k q f) (hk : ¬ (1 : Int32) ≤ k) : s1 tx L p = false := by
  rcases h with z | z
  · exact absurd (by rw [z.2.2.1]; decide) hk
  · exact z.1
theorem gb_3 {tx : Nat → Nat} {L p : Nat} (h : gk tx L p = 3) : gb tx L p = true := by
  unfold gk at h
  cases q : gb tx L p
  · rw [q] at h; cases h
  · rfl
theorem mb_y1 {c p : Nat} (hz : nI p = 0) (hp : p < 300) (h : ¬ bI (decide (c = 105)) = 0) : mb c p = true := by
  have e : p = 0 := nI_inj (b := 0) hz (by omega) (by decide)
  unfold mb; rw [if_pos e]; exact bI_n0 h
theorem mb_n1 {c p : Nat} (hz : nI p = 0) (hp : p < 300) (h : bI (decide (c = 105)) = 0) : ¬ mb c p = true := by
  have e : p = 0 := nI_inj (b := 0) hz (by omega) (by decide)
  unfold mb; rw [if_pos e, bI_0.mp h]; decide
theorem mb_y0 {c p : Nat} (hz : ¬ nI p = 0) (h : ¬ bI (mb0 c) = 0) : mb c p = true := by
  unfold mb; rw [if_neg (fun q => hz (by rw [q]; rfl))]; exact bI_n0 h
theorem mb_n0 {c p : Nat} (hz : ¬ nI p = 0) (h : bI (mb0 c) = 0) : ¬ mb c p = true := by
  unfold mb; rw [if_neg (fun q => hz (by rw [q]; rfl)), bI_0.mp h]; decide
theorem pS_1 {n N o : Nat} {ty pa pb vo : Nat → Nat} {nm : Int64} {ft fa fb fo : Nat → Int32} {tx : Nat → Nat} {L p q : Nat} (h : CR n N o ty pa pb vo nm ft fa fb fo) (hm : ¬ mb (ca tx L p) p = true) : RS (pS tx L p (n, N, o, ty, pa, pb, vo, nm)) 1 q n N o nm ft fa fb fo := by
  unfold pS; rw [if_neg hm]; exact ⟨rfl, fun (z : (1 : Nat) = 0) => absurd z (by decide), ty, pa, pb, vo, rfl, h⟩
theorem pS_g2 {n N o : Nat} {ty pa pb vo : Nat → Nat} {nm : Int64} {ft fa fb fo : Nat → Int32} {tx : Nat → Nat} {L p q : Nat} (h : CR n N o ty pa pb vo nm ft fa fb fo) (hm : mb (ca tx L p) p = true) (hc : ca tx L p = 103) (hg : (ga tx L (p + 1) || gb tx L (p + 1)) = false) : RS (pS tx L p (n, N, o, ty, pa, pb, vo, nm)) 2 q n N o nm ft fa fb fo := by
  unfold pS; rw [if_pos hm, if_pos hc, if_neg (by rw [hg]; decide)]; exact ⟨rfl, fun (z : (2 : Nat) = 0) => absurd z (by decide), ty, pa, pb, vo, rfl, h⟩
theorem pS_s2 {n N o : Nat} {ty pa pb vo : Nat → Nat} {nm : Int64} {ft fa fb fo : Nat → Int32} {tx : Nat → Nat} {L p q : Nat} (h : CR n N o ty pa pb vo nm ft fa fb fo) (hm : mb (ca tx L p) p = true) (hc : ¬ ca tx L p = 103) (hg : s1 tx L (p + 1) = false) : RS (pS tx L p (n, N, o, ty, pa, pb, vo, nm)) 2 q n N o nm ft fa fb fo := by
  unfold pS; rw [if_pos hm, if_neg hc, if_neg (by rw [hg]; decide)]; exact ⟨rfl, fun (z : (2 : Nat) = 0) => absurd z (by decide), ty, pa, pb, vo, rfl, h⟩
theorem pS_g {n N o : Nat} {nm : Int64} {ft fa fb fo : Nat → Int32} {V : VT} {tx : Nat → Nat} {L p q : Nat} {r : Int32} (hm : mb (ca tx L p) p = true) (hc : ca tx L p = 103) (hg : (ga tx L (p + 1) || gb tx L (p + 1)) = true) (hq : q = gq tx L (p + 1)) (h : tP (tG (gk tx L (p + 1)) (cV tx L (p + 1)) (cV tx L (cP tx L (p + 1) + 1)) (cV tx L (cP tx L (cP tx L (p + 1) + 1) + 1)) V) r n N o nm ft fa fb fo) : RS (pS tx L p V) r q n N o nm ft fa fb fo := by
  unfold pS; rw [if_pos hm, if_pos hc, if_pos hg]; exact ⟨h.1, fun _ => hq, h.2⟩
theorem pS_i {n N o : Nat} {nm : Int64} {ft fa fb fo : Nat → Int32} {V : VT} {tx : Nat → Nat} {L p q : Nat} {r : Int32} (hm : mb (ca tx L p) p = true) (hc : ¬ ca tx L p = 103) (hg : s1 tx L (p + 1) = true) (hq : q = cP tx L (p + 1) + 1) (hi : ca tx L p = 105) (h : tP (tI (cV tx L (p + 1)) V) r n N o nm ft fa fb fo) : RS (pS tx L p V) r q n N o nm ft fa fb fo := by
  unfold pS; rw [if_pos hm, if_neg hc, if_pos hg, if_pos hi]; exact ⟨h.1, fun _ => hq, h.2⟩
theorem pS_o {n N o : Nat} {nm : Int64} {ft fa fb fo : Nat → Int32} {V : VT} {tx : Nat → Nat} {L p q : Nat} {r : Int32} (hm : mb (ca tx L p) p = true) (hc : ¬ ca tx L p = 103) (hg : s1 tx L (p + 1) = true) (hq : q = cP tx L (p + 1) + 1) (hi : ¬ ca tx L p = 105) (ho : ca tx L p = 111) (h : tP (tO (cV tx L (p + 1)) V) r n N o nm ft fa fb fo) : RS (pS tx L p V) r q n N o nm ft fa fb fo := by
  unfold pS; rw [if_pos hm, if_neg hc, if_pos hg, if_neg hi, if_pos ho]; exact ⟨h.1, fun _ => hq, h.2⟩
theorem pS_w {n N o : Nat} {nm : Int64} {ft fa fb fo : Nat → Int32} {V : VT} {tx : Nat → Nat} {L p q : Nat} {r : Int32} (hm : mb (ca tx L p) p = true) (hc : ¬ ca tx L p = 103) (hg : s1 tx L (p + 1) = true) (hq : q = cP tx L (p + 1) + 1) (hi : ¬ ca tx L p = 105) (ho : ¬ ca tx L p = 111) (h : tP (tW (cV tx L (p + 1)) V) r n N o nm ft fa fb fo) : RS (pS tx L p V) r q n N o nm ft fa fb fo := by
  unfold pS; rw [if_pos hm, if_neg hc, if_pos hg, if_neg hi, if_neg ho]; exact ⟨h.1, fun _ => hq, h.2⟩
set_option maxHeartbeats 4000000 in
set_option maxRecDepth 100000 in
theorem c4_readStatement (l : Launch) (D : va_G) (g : hk_G) (ti : Nat) (sz : Nat) (rd : Nat) (tb : Nat) (tc : Nat) (fc : Nat → Int32) (tx : Nat → Nat) (L : Nat) (pz : Nat) (nb : Nat) (fn : Nat → Int32) (kc : Int32) (es : Int32) (rs : Int32) (a : Nat) (t : Nat) (f1 : Nat) (f2 : Nat) (on : Nat) (ft : Nat → Int32) (fa : Nat → Int32) (fb : Nat → Int32) (fo : Nat → Int32) (n : Nat) (N : Nat) (o : Nat) (nm : Int64) (cd : Nat) (wt : Nat) (ty : Nat → Nat) (pa : Nat → Nat) (pb : Nat → Nat) (vo : Nat → Nat) (hX : TX tx L fc) (hcn : ∀ j, narrow .char (.int (fc j)) = .int (fc j)) (hp : pz < 300) (hV : CR n N o ty pa pb vo nm ft fa fb fo) : Met l yX4_readStatement wsX4_readStatement ({ frames := 3, cells := 0, slots := 0, locals := 66 }) (va_Pc [.ref rd] (hk_In D g ti [(rd, .inr (4, [.ref tb, .ref a, .ref nb, .int kc, .int (nI pz), .int es, .int rs])), (tb, .inr (2, [.ref tc, .int (nI L)])), (tc, .inl (g.1, 200, .inl fc)), (nb, .inl (g.2.1, 3, .inl fn)), (a, .inr (1, [.ref t, .ref f1, .ref f2, .ref on, .int (nI n), .int (nI N), .int (nI o), .long nm, .int (nI cd), .int (nI wt)])), (t, .inl (g.2.1, 30, .inl ft)), (f1, .inl (g.2.1, 30, .inl fa)), (f2, .inl (g.2.1, 30, .inl fb)), (on, .inl (g.2.1, 6, .inl fo))] sz)) (va_Qi (S := Int32 × Nat × (Nat → Int32) × Nat × Nat × Nat × Int64 × (Nat → Int32) × (Nat → Int32) × (Nat → Int32) × (Nat → Int32)) (fun r u => RS (pS tx L pz (n, N, o, ty, pa, pb, vo, nm)) r u.2.1 u.2.2.2.1 u.2.2.2.2.1 u.2.2.2.2.2.1 u.2.2.2.2.2.2.1 u.2.2.2.2.2.2.2.1 u.2.2.2.2.2.2.2.2.1 u.2.2.2.2.2.2.2.2.2.1 u.2.2.2.2.2.2.2.2.2.2) (fun u => hk_Out D (va_A [(rd, .inr (4, [.ref tb, .ref a, .ref nb, .int kc, .int (nI pz), .int es, .int rs])), (tb, .inr (2, [.ref tc, .int (nI L)])), (tc, .inl (g.1, 200, .inl fc)), (nb, .inl (g.2.1, 3, .inl fn)), (a, .inr (1, [.ref t, .ref f1, .ref f2, .ref on, .int (nI n), .int (nI N), .int (nI o), .long nm, .int (nI cd), .int (nI wt)])), (t, .inl (g.2.1, 30, .inl ft)), (f1, .inl (g.2.1, 30, .inl fa)), (f2, .inl (g.2.1, 30, .inl fb)), (on, .inl (g.2.1, 6, .inl fo))] sz) (match u with | (k', q', n0', n', N', o', m', f1', f2', f3', f4') => [(rd, .inr (4, [.ref tb, .ref a, .ref nb, .int k', .int (nI q'), .int es, .int rs])), (tb, .inr (2, [.ref tc, .int (nI L)])), (tc, .inl (g.1, 200, .inl fc)), (nb, .inl (g.2.1, 3, .inl n0')), (a, .inr (1, [.ref t, .ref f1, .ref f2, .ref on, .int (nI n'), .int (nI N'), .int (nI o'), .long m', .int (nI cd), .int (nI wt)])), (t, .inl (g.2.1, 30, .inl f1')), (f1, .inl (g.2.1, 30, .inl f2')), (f2, .inl (g.2.1, 30, .inl f3')), (on, .inl (g.2.1, 6, .inl f4'))])) (va_A [(rd, .inr (4, [.ref tb, .ref a, .ref nb, .int kc, .int (nI pz), .int es, .int rs])), (tb, .inr (2, [.ref tc, .int (nI L)])), (tc, .inl (g.1, 200, .inl fc)), (nb, .inl (g.2.1, 3, .inl fn)), (a, .inr (1, [.ref t, .ref f1, .ref f2, .ref on, .int (nI n), .int (nI N), .int (nI o), .long nm, .int (nI cd), .int (nI wt)])), (t, .inl (g.2.1, 30, .inl ft)), (f1, .inl (g.2.1, 30, .inl fa)), (f2, .inl (g.2.1, 30, .inl fb)), (on, .inl (g.2.1, 6, .inl fo))] sz)) 0 0 (va_A [(rd, .inr (4, [.ref tb, .ref a, .ref nb, .int kc, .int (nI pz), .int es, .int rs])), (tb, .inr (2, [.ref tc, .int (nI L)])), (tc, .inl (g.1, 200, .inl fc)), (nb, .inl (g.2.1, 3, .inl fn)), (a, .inr (1, [.ref t, .ref f1, .ref f2, .ref on, .int (nI n), .int (nI N), .int (nI o), .long nm, .int (nI cd), .int (nI wt)])), (t, .inl (g.2.1, 30, .inl ft)), (f1, .inl (g.2.1, 30, .inl fa)), (f2, .inl (g.2.1, 30, .inl fb)), (on, .inl (g.2.1, 6, .inl fo))] sz) := by
  refine Met.ofW (cc := cX4_readStatement) (maxL := 5) (ret := (some .int)) (by decide) rfl ?_
  intro p e s m args below meth c s₁ Bd hml hv
  obtain ⟨rfl, hsz, hP, hD0, hE⟩ := hv
  have hx := Bd.exec
  have hb := Bd.bytes
  have hr := Bd.returns
  have hts := atoms_spec (ws := wsX4_readStatement) Bd.pre
  have hown : s.vm.findClass RX4 = some m.cls := findClass_of_methodNamed Bd.named
  have hlocks := Bd.notSynchronized
  have hK := hE.1
  have hi4 : ∀ w ∈ wsX40, w ∈ wsX4_readStatement := fun w h => List.mem_cons_of_mem _ (List.mem_append_left _ (List.mem_append_left _ (List.mem_append_right _ h)))
  subst hsz
  have hD := hD0.self (sz := s.heap.size)
  generalize hAe : va_A [(rd, .inr (4, [.ref tb, .ref a, .ref nb, .int kc, .int (nI pz), .int es, .int rs])), (tb, .inr (2, [.ref tc, .int (nI L)])), (tc, .inl (g.1, 200, .inl fc)), (nb, .inl (g.2.1, 3, .inl fn)), (a, .inr (1, [.ref t, .ref f1, .ref f2, .ref on, .int (nI n), .int (nI N), .int (nI o), .long nm, .int (nI cd), .int (nI wt)])), (t, .inl (g.2.1, 30, .inl ft)), (f1, .inl (g.2.1, 30, .inl fa)), (f2, .inl (g.2.1, 30, .inl fb)), (on, .inl (g.2.1, 6, .inl fo))] s.heap.size = A at hD hE ⊢
  have hA : ∀ q : Nat, s.heap.size ≤ q → A q := fun q h => by rw [← hAe]; exact Or.inr h
  have hS : va_S A s.heap s.heap [] := va_S.rf
  have hl := lv_entry ([.ref rd]) (n := 5) (Nat.le_of_ble_eq_true rfl)
  rw [lg_entry_eq]
  generalize (lg_sl ([.ref rd]) ++ List.replicate (5 - (lg_sl ([.ref rd])).length) Slot.unset).toArray = ls at hl ⊢
  have hl : lv_has ls 5 [(0, .ref rd)] := hl
  refine lv_aload_n hx hb dX4_readStatement_0 rfl (lv_at hl 0 rfl) ?_
  refine va_get (D := D) (ci := 4) (v := .int (nI pz)) (C := RX4) (T := TX4) (N := 7) hx hb hts hi4 hown hK hP 0 rfl rfl 4 (by decide) (hts (.fieldLink RX4 33 "SelfCheckingCircuit$TextReader" "position" "I") (by decide +kernel)) (fun _ h9 => h9) rfl dX4_readStatement_1 ?_
  refine lv_if_ne (tgt := 11) hx hb dX4_readStatement_4 (by decide) (fun c_1 => ?_) (fun c_1 => ?_)
  · have c_1h : ¬ nI pz = (0 : Int32) := c_1
    refine lv_iconst (v := 0) hx hb dX4_readStatement_11 (by decide) ?_
    refine lv_istore_n (lv' := [(1, .int 0), (0, .ref rd)]) hx hb dX4_readStatement_12 rfl hl (by decide) rfl (fun ls hl => ?_)
    refine lv_aload_n hx hb dX4_readStatement_13 rfl (lv_at hl 1 rfl) ?_
    refine va_get (D := D) (ci := 4) (v := .ref tb) (C := RX4) (T := TX4) (N := 7) hx hb hts hi4 hown hK hP 0 rfl rfl 0 (by decide) (hts (.fieldLink RX4 22 "SelfCheckingCircuit$TextReader" "text" "LSelfCheckingCircuit$CircuitText;") (by decide +kernel)) (fun _ h9 => h9) rfl dX4_readStatement_14 ?_
    refine lv_aload_n hx hb dX4_readStatement_17 rfl (lv_at hl 1 rfl) ?_
    refine va_get (D := D) (ci := 4) (v := .int (nI pz)) (C := RX4) (T := TX4) (N := 7) hx hb hts hi4 hown hK hP 0 rfl rfl 4 (by decide) (hts (.fieldLink RX4 33 "SelfCheckingCircuit$TextReader" "position" "I") (by decide +kernel)) (fun _ h9 => h9) rfl dX4_readStatement_18 ?_
    refine hk_csi (va_runVN (As := [.int (nI pz)]) (rest := []) ⟨hx, hb, hml, hown, hts⟩ (c2_at l D g ti tb tc fc (nI L) (nI pz) hcn) ⟨va_cnB 1 hts gX4_readStatement_X2_at_n53 rfl rfl rfl (nm_X4_53 hE.2.1) (hts (.initialized RX2) (by decide +kernel)) (by decide +kernel) ⟨Nat.le_of_ble_eq_true rfl, Nat.le_of_ble_eq_true rfl⟩, hts (.instanceMethod yX2_at) (by decide +kernel), hts (.selects RX2 yX2_at yX2_at) (by decide +kernel)⟩ (hk_roV hE hP hS 2 rfl rfl [1, 2] rfl rfl) rfl rfl hl.1 rfl (lv_room (Nat.le_of_ble_eq_true rfl)) dX4_readStatement_21 ⟨Nat.zero_le _, Nat.zero_le _⟩) (fun r_2 hr_3 => ?_)
    subst hr_3
    refine hk_ti (nI (ca tx L pz)) (at_n hX (by omega)) ?_
    refine lv_istore_n (lv' := [(2, .int (nI (ca tx L pz))), (1, .int 0), (0, .ref rd)]) hx hb dX4_readStatement_24 rfl hl (by decide) rfl (fun ls hl => ?_)
    refine lv_aload_n hx hb dX4_readStatement_25 rfl (lv_at hl 2 rfl) ?_
    refine lv_dup hx hb dX4_readStatement_26 rfl ?_
    refine va_get (D := D) (ci := 4) (v := .int (nI pz)) (C := RX4) (T := TX4) (N := 7) hx hb hts hi4 hown hK hP 0 rfl rfl 4 (by decide) (hts (.fieldLink RX4 33 "SelfCheckingCircuit$TextReader" "position" "I") (by decide +kernel)) (fun _ h9 => h9) rfl dX4_readStatement_27 ?_
    refine lv_iconst (v := 1) hx hb dX4_readStatement_30 (by decide) ?_
    refine lv_iadd hx hb dX4_readStatement_31 ?_
    refine hk_ti (nI (pz + 1)) (nI_1 pz) ?_
    refine va_put (D := D) (ci := 4) (v := .int (nI (pz + 1))) (ty := .int) (C := RX4) (T := TX4) (N := 7) hx hb hts hi4 tyX4 tyX4_ok nmX4 hown hK hP hD hS 0 rfl rfl 4 (by decide) (hts (.fieldLink RX4 33 "SelfCheckingCircuit$TextReader" "position" "I") (by decide +kernel)) (fun _ h9 => h9) rfl (by decide +kernel) rfl rfl (Nat.le_of_ble_eq_true rfl) dX4_readStatement_32 (fun H locs hP hD hS => ?_)
    have hP : va_P D vwCl [(rd, .inr (4, [.ref tb, .ref a, .ref nb, .int kc, .int (nI (pz + 1)), .int es, .int rs])), (tb, .inr (2, [.ref tc, .int (nI L)])), (tc, .inl (g.1, 200, .inl fc)), (nb, .inl (g.2.1, 3, .inl fn)), (a, .inr (1, [.ref t, .ref f1, .ref f2, .ref on, .int (nI n), .int (nI N), .int (nI o), .long nm, .int (nI cd), .int (nI wt)])), (t, .inl (g.2.1, 30, .inl ft)), (f1, .inl (g.2.1, 30, .inl fa)), (f2, .inl (g.2.1, 30, .inl fb)), (on, .inl (g.2.1, 6, .inl fo))] H := hP
    have hD : va_D A [(rd, .inr (4, [.ref tb, .ref a, .ref nb, .int kc, .int (nI (pz + 1)), .int es, .int rs])), (tb, .inr (2, [.ref tc, .int (nI L)])), (tc, .inl (g.1, 200, .inl fc)), (nb, .inl (g.2.1, 3, .inl fn)), (a, .inr (1, [.ref t, .ref f1, .ref f2, .ref on, .int (nI n), .int (nI N), .int (nI o), .long nm, .int (nI cd), .int (nI wt)])), (t, .inl (g.2.1, 30, .inl ft)), (f1, .inl (g.2.1, 30, .inl fa)), (f2, .inl (g.2.1, 30, .inl fb)), (on, .inl (g.2.1, 6, .inl fo))] := hD
    refine lv_iload_n hx hb dX4_readStatement_35 rfl (lv_at hl 0 rfl) ?_
    refine lv_iload_n hx hb dX4_readStatement_36 rfl (lv_at hl 1 rfl) ?_
    refine hk_csi (va_runS (As := [.int (nI (ca tx L pz)), .int 0]) (rest := []) ⟨hx, hb, hml, hown, hts⟩ (c4_mayBegin l D g ti (nI (ca tx L pz)) 0 ) (va_cwS 2 hts gX4_readStatement_X4_mayBegin rfl rfl rfl (by decide +kernel) ⟨Nat.le_of_ble_eq_true rfl, Nat.le_of_ble_eq_true rfl⟩) (hk_roS hE hP hS [] rfl) rfl rfl hl.1 rfl (lv_room (Nat.le_of_ble_eq_true rfl)) dX4_readStatement_37 ⟨Nat.zero_le _, Nat.zero_le _⟩) (fun r_4 hr_5 => ?_)
    subst hr_5
    refine hk_ti (bI (mb0 (ca tx L pz))) (mb_0 (ca_lt hX _)) ?_
    refine lv_if_ne (tgt := 45) hx hb dX4_readStatement_40 (by decide) (fun c_6 => ?_) (fun c_6 => ?_)
    · have c_6h : ¬ bI (mb0 (ca tx L pz)) = (0 : Int32) := c_6
      refine lv_iload_n hx hb dX4_readStatement_45 rfl (lv_at hl 0 rfl) ?_
      refine lv_bipush (v := 103) hx hb dX4_readStatement_46 (by decide) ?_
      refine lv_icmp_ne (tgt := 55) hx hb dX4_readStatement_48 (by decide) (fun c_7 => ?_) (fun c_7 => ?_)
      · have c_7h : ¬ nI (ca tx L pz) = (103 : Int32) := c_7
        refine lv_iconst (v := 1) hx hb dX4_readStatement_55 (by decide) ?_
        refine lv_istore_n (lv' := [(3, .int 1), (2, .int (nI (ca tx L pz))), (1, .int 0), (0, .ref rd)]) hx hb dX4_readStatement_56 rfl hl (by decide) rfl (fun ls hl => ?_)
        refine lv_iload_n hx hb dX4_readStatement_57 rfl (lv_at hl 1 rfl) ?_
        refine lv_bipush (v := 103) hx hb dX4_readStatement_58 (by decide) ?_
        refine lv_icmp_ne (tgt := 67) hx hb dX4_readStatement_60 (by decide) (fun c_8 => ?_) (fun c_8 => ?_)
        · have c_8h : ¬ nI (ca tx L pz) = (103 : Int32) := c_8
          refine lv_iconst (v := 1) hx hb dX4_readStatement_67 (by decide) ?_
          refine lv_istore (lv' := [(4, .int 1), (3, .int 1), (2, .int (nI (ca tx L pz))), (1, .int 0), (0, .ref rd)]) hx hb dX4_readStatement_68 hl (by decide) rfl (fun ls hl => ?_)
          refine lv_aload_n hx hb dX4_readStatement_70 rfl (lv_at hl 4 rfl) ?_
          refine lv_iload hx hb dX4_readStatement_71 (lv_at hl 0 rfl) ?_
          refine hk_cmi (wr := [(a, .inr (1, [.ref t, .ref f1, .ref f2, .ref on, .int (nI n), .int (nI N), .int (nI o), .long nm, .int (nI cd), .int (nI wt)])), (t, .inl (g.2.1, 30, .inl ft)), (f1, .inl (g.2.1, 30, .inl fa)), (f2, .inl (g.2.1, 30, .inl fb)), (on, .inl (g.2.1, 6, .inl fo))]) (va_runV (As := [.int 1]) (rest := []) ⟨hx, hb, hml, hown, hts⟩ (c4_readNumbers_1 l D g ti _ rd tb tc fc tx L (pz + 1) (.ref a) nb fn kc es rs hX hcn (by omega)) (cwV 1 hts gX4_readStatement_X4_readNumbers rfl rfl rfl (by decide +kernel) ⟨Nat.le_of_ble_eq_true rfl, Nat.le_of_ble_eq_true rfl⟩) (hk_inV hE hP hD hS hA 4 rfl rfl [0, 1, 2, 3] (by decide) rfl rfl) rfl rfl hl.1 rfl (lv_room (Nat.le_of_ble_eq_true rfl)) dX4_readStatement_73 ⟨Nat.zero_le _, Nat.zero_le _⟩) hP hD hS hA [0, 1, 2, 3] [4, 5, 6, 7, 8] rfl rfl (by decide) (by decide) (fun rn u9 H locs hrn hP hD hS => ?_)
          obtain ⟨k9, q9, fn9⟩ := u9
          try dsimp only at hrn
          have hP : va_P D vwCl [(a, .inr (1, [.ref t, .ref f1, .ref f2, .ref on, .int (nI n), .int (nI N), .int (nI o), .long nm, .int (nI cd), .int (nI wt)])), (t, .inl (g.2.1, 30, .inl ft)), (f1, .inl (g.2.1, 30, .inl fa)), (f2, .inl (g.2.1, 30, .inl fb)), (on, .inl (g.2.1, 6, .inl fo)), (rd, .inr (4, [.ref tb, .ref a, .ref nb, .int k9, .int (nI q9), .int es, .int rs])), (tb, .inr (2, [.ref tc, .int (nI L)])), (tc, .inl (g.1, 200, .inl fc)), (nb, .inl (g.2.1, 3, .inl fn9))] H := hP
          have hD : va_D A [(a, .inr (1, [.ref t, .ref f1, .ref f2, .ref on, .int (nI n), .int (nI N), .int (nI o), .long nm, .int (nI cd), .int (nI wt)])), (t, .inl (g.2.1, 30, .inl ft)), (f1, .inl (g.2.1, 30, .inl fa)), (f2, .inl (g.2.1, 30, .inl fb)), (on, .inl (g.2.1, 6, .inl fo)), (rd, .inr (4, [.ref tb, .ref a, .ref nb, .int k9, .int (nI q9), .int es, .int rs])), (tb, .inr (2, [.ref tc, .int (nI L)])), (tc, .inl (g.1, 200, .inl fc)), (nb, .inl (g.2.1, 3, .inl fn9))] := hD
          refine lv_if_eq (tgt := 87) hx hb dX4_readStatement_76 (by decide) (fun c_9 => ?_) (fun c_9 => ?_)
          · have c_9h : rn = (0 : Int32) := c_9
            refine lv_iconst (v := 2) hx hb dX4_readStatement_87 (by decide) ?_
            have hP9 := hP.sub (ws' := [(rd, .inr (4, [.ref tb, .ref a, .ref nb, .int k9, .int (nI q9), .int es, .int rs])), (tb, .inr (2, [.ref tc, .int (nI L)])), (tc, .inl (g.1, 200, .inl fc)), (nb, .inl (g.2.1, 3, .inl fn9)), (a, .inr (1, [.ref t, .ref f1, .ref f2, .ref on, .int (nI n), .int (nI N), .int (nI o), .long nm, .int (nI cd), .int (nI wt)])), (t, .inl (g.2.1, 30, .inl ft)), (f1, .inl (g.2.1, 30, .inl fa)), (f2, .inl (g.2.1, 30, .inl fb)), (on, .inl (g.2.1, 6, .inl fo))]) [5, 6, 7, 8, 0, 1, 2, 3, 4] rfl
            have hD9 := hD.sub (ws' := [(rd, .inr (4, [.ref tb, .ref a, .ref nb, .int k9, .int (nI q9), .int es, .int rs])), (tb, .inr (2, [.ref tc, .int (nI L)])), (tc, .inl (g.1, 200, .inl fc)), (nb, .inl (g.2.1, 3, .inl fn9)), (a, .inr (1, [.ref t, .ref f1, .ref f2, .ref on, .int (nI n), .int (nI N), .int (nI o), .long nm, .int (nI cd), .int (nI wt)])), (t, .inl (g.2.1, 30, .inl ft)), (f1, .inl (g.2.1, 30, .inl fa)), (f2, .inl (g.2.1, 30, .inl fb)), (on, .inl (g.2.1, 6, .inl fo))]) [5, 6, 7, 8, 0, 1, 2, 3, 4] (by decide) rfl
            exact W.iret (v := 2) hx hb hr (fun tt ht hW => ⟨⟨_, (k9, q9, fn9, n, N, o, nm, ft, fa, fb, fo), rfl, pS_s2 hV (mb_y0 c_1 c_6) (ca_n (k := 103) c_8) (n1_n hrn c_9), by rw [ht]; exact hP9, hD9⟩, hS.F ht⟩) hS.2.2 dX4_readStatement_88
          · have c_9h : ¬ rn = (0 : Int32) := c_9
            refine lv_aload_n hx hb dX4_readStatement_79 rfl (lv_at hl 4 rfl) ?_
            refine va_get (D := D) (ci := 4) (v := .int k9) (C := RX4) (T := TX4) (N := 7) hx hb hts hi4 hown hK hP 5 rfl rfl 3 (by decide) (hts (.fieldLink RX4 65 "SelfCheckingCircuit$TextReader" "count" "I") (by decide +kernel)) (fun _ h9 => h9) rfl dX4_readStatement_80 ?_
            refine lv_iload_n hx hb dX4_readStatement_83 rfl (lv_at hl 1 rfl) ?_
            refine lv_icmp_ge (tgt := 89) hx hb dX4_readStatement_84 (by decide) (fun c_10 => ?_) (fun c_10 => ?_)
            · have c_10h : (1 : Int32) ≤ k9 := c_10
              refine lv_iload_n hx hb dX4_readStatement_89 rfl (lv_at hl 2 rfl) ?_
              refine lv_bipush (v := 105) hx hb dX4_readStatement_90 (by decide) ?_
              refine lv_icmp_ne (tgt := 106) hx hb dX4_readStatement_92 (by decide) (fun c_11 => ?_) (fun c_11 => ?_)
              · have c_11h : ¬ nI (ca tx L pz) = (105 : Int32) := c_11
                refine lv_iload_n hx hb dX4_readStatement_106 rfl (lv_at hl 2 rfl) ?_
                refine lv_bipush (v := 103) hx hb dX4_readStatement_107 (by decide) ?_
                refine lv_icmp_ne (tgt := 135) hx hb dX4_readStatement_109 (by decide) (fun c_12 => ?_) (fun c_12 => ?_)
                · have c_12h : ¬ nI (ca tx L pz) = (103 : Int32) := c_12
                  refine lv_iload_n hx hb dX4_readStatement_135 rfl (lv_at hl 2 rfl) ?_
                  refine lv_bipush (v := 111) hx hb dX4_readStatement_136 (by decide) ?_
                  refine lv_icmp_ne (tgt := 154) hx hb dX4_readStatement_138 (by decide) (fun c_13 => ?_) (fun c_13 => ?_)
                  · have c_13h : ¬ nI (ca tx L pz) = (111 : Int32) := c_13
                    refine lv_aload_n hx hb dX4_readStatement_154 rfl (lv_at hl 4 rfl) ?_
                    refine lv_aload_n hx hb dX4_readStatement_155 rfl (lv_at hl 4 rfl) ?_
                    refine va_get (D := D) (ci := 4) (v := .ref nb) (C := RX4) (T := TX4) (N := 7) hx hb hts hi4 hown hK hP 5 rfl rfl 2 (by decide) (hts (.fieldLink RX4 18 "SelfCheckingCircuit$TextReader" "numbers" "[I") (by decide +kernel)) (fun _ h9 => h9) rfl dX4_readStatement_156 ?_
                    refine lv_iconst (v := 0) hx hb dX4_readStatement_159 (by decide) ?_
                    refine va_iald hx hb hK hP 8 1 rfl rfl (by unfold vp_in; decide) dX4_readStatement_160 ?_
                    refine hk_ti (fn9 0) (congrArg fn9 (by decide)) ?_
                    refine hk_ti (nI (cV tx L (pz + 1))) ((n1_y hrn c_9).2.2.2.2) ?_
                    refine hk_cmi (wr := [(tb, .inr (2, [.ref tc, .int (nI L)])), (tc, .inl (g.1, 200, .inl fc)), (nb, .inl (g.2.1, 3, .inl fn9))]) (va_runV (As := [.int (nI (cV tx L (pz + 1)))]) (rest := []) ⟨hx, hb, hml, hown, hts⟩ (c4_takeNormal l D g ti _ rd tb (.ref nb) k9 q9 es rs a t f1 f2 on ft fa fb fo n N o nm cd wt ty pa pb vo (cV tx L (pz + 1)) hV (cV_lt hX _)) (cwV 1 hts gX4_readStatement_X4_takeNormal rfl rfl rfl (by decide +kernel) ⟨Nat.le_of_ble_eq_true rfl, Nat.le_of_ble_eq_true rfl⟩) (hk_inV hE hP hD hS hA 4 rfl rfl [5, 0, 1, 2, 3, 4] (by decide) rfl rfl) rfl rfl hl.1 rfl (lv_room (Nat.le_of_ble_eq_true rfl)) dX4_readStatement_161 ⟨Nat.zero_le _, Nat.zero_le _⟩) hP hD hS hA [5, 0, 1, 2, 3, 4] [6, 7, 8] rfl rfl (by decide) (by decide) (fun rt u8 H locs hrt hP hD hS => ?_)
                    obtain ⟨m8, rfl⟩ : ∃ z, z = u8 := ⟨_, rfl⟩
                    try dsimp only at hrt
                    have hP : va_P D vwCl [(tb, .inr (2, [.ref tc, .int (nI L)])), (tc, .inl (g.1, 200, .inl fc)), (nb, .inl (g.2.1, 3, .inl fn9)), (rd, .inr (4, [.ref tb, .ref a, .ref nb, .int k9, .int (nI q9), .int es, .int rs])), (a, .inr (1, [.ref t, .ref f1, .ref f2, .ref on, .int (nI n), .int (nI N), .int (nI o), .long m8, .int (nI cd), .int (nI wt)])), (t, .inl (g.2.1, 30, .inl ft)), (f1, .inl (g.2.1, 30, .inl fa)), (f2, .inl (g.2.1, 30, .inl fb)), (on, .inl (g.2.1, 6, .inl fo))] H := hP
                    have hD : va_D A [(tb, .inr (2, [.ref tc, .int (nI L)])), (tc, .inl (g.1, 200, .inl fc)), (nb, .inl (g.2.1, 3, .inl fn9)), (rd, .inr (4, [.ref tb, .ref a, .ref nb, .int k9, .int (nI q9), .int es, .int rs])), (a, .inr (1, [.ref t, .ref f1, .ref f2, .ref on, .int (nI n), .int (nI N), .int (nI o), .long m8, .int (nI cd), .int (nI wt)])), (t, .inl (g.2.1, 30, .inl ft)), (f1, .inl (g.2.1, 30, .inl fa)), (f2, .inl (g.2.1, 30, .inl fb)), (on, .inl (g.2.1, 6, .inl fo))] := hD
                    have hP9 := hP.sub (ws' := [(rd, .inr (4, [.ref tb, .ref a, .ref nb, .int k9, .int (nI q9), .int es, .int rs])), (tb, .inr (2, [.ref tc, .int (nI L)])), (tc, .inl (g.1, 200, .inl fc)), (nb, .inl (g.2.1, 3, .inl fn9)), (a, .inr (1, [.ref t, .ref f1, .ref f2, .ref on, .int (nI n), .int (nI N), .int (nI o), .long m8, .int (nI cd), .int (nI wt)])), (t, .inl (g.2.1, 30, .inl ft)), (f1, .inl (g.2.1, 30, .inl fa)), (f2, .inl (g.2.1, 30, .inl fb)), (on, .inl (g.2.1, 6, .inl fo))]) [3, 0, 1, 2, 4, 5, 6, 7, 8] rfl
                    have hD9 := hD.sub (ws' := [(rd, .inr (4, [.ref tb, .ref a, .ref nb, .int k9, .int (nI q9), .int es, .int rs])), (tb, .inr (2, [.ref tc, .int (nI L)])), (tc, .inl (g.1, 200, .inl fc)), (nb, .inl (g.2.1, 3, .inl fn9)), (a, .inr (1, [.ref t, .ref f1, .ref f2, .ref on, .int (nI n), .int (nI N), .int (nI o), .long m8, .int (nI cd), .int (nI wt)])), (t, .inl (g.2.1, 30, .inl ft)), (f1, .inl (g.2.1, 30, .inl fa)), (f2, .inl (g.2.1, 30, .inl fb)), (on, .inl (g.2.1, 6, .inl fo))]) [3, 0, 1, 2, 4, 5, 6, 7, 8] (by decide) rfl
                    exact W.iret (v := rt) hx hb hr (fun tt ht hW => ⟨⟨_, (k9, q9, fn9, n, N, o, m8, ft, fa, fb, fo), rfl, pS_w (mb_y0 c_1 c_6) (ca_n (k := 103) c_12) (n1_y hrn c_9).1 (n1_y hrn c_9).2.2.2.1 (ca_n (k := 105) c_11) (ca_n (k := 111) c_13) hrt, by rw [ht]; exact hP9, hD9⟩, hS.F ht⟩) hS.2.2 dX4_readStatement_164
                  · have c_13h : nI (ca tx L pz) = (111 : Int32) := c_13
                    refine lv_aload_n hx hb dX4_readStatement_141 rfl (lv_at hl 4 rfl) ?_
                    refine lv_aload_n hx hb dX4_readStatement_142 rfl (lv_at hl 4 rfl) ?_
                    refine va_get (D := D) (ci := 4) (v := .ref nb) (C := RX4) (T := TX4) (N := 7) hx hb hts hi4 hown hK hP 5 rfl rfl 2 (by decide) (hts (.fieldLink RX4 18 "SelfCheckingCircuit$TextReader" "numbers" "[I") (by decide +kernel)) (fun _ h9 => h9) rfl dX4_readStatement_143 ?_
                    refine lv_iconst (v := 0) hx hb dX4_readStatement_146 (by decide) ?_
                    refine va_iald hx hb hK hP 8 1 rfl rfl (by unfold vp_in; decide) dX4_readStatement_147 ?_
                    refine hk_ti (fn9 0) (congrArg fn9 (by decide)) ?_
                    refine hk_ti (nI (cV tx L (pz + 1))) ((n1_y hrn c_9).2.2.2.2) ?_
                    refine hk_cmi (wr := [(tb, .inr (2, [.ref tc, .int (nI L)])), (tc, .inl (g.1, 200, .inl fc)), (nb, .inl (g.2.1, 3, .inl fn9))]) (va_runV (As := [.int (nI (cV tx L (pz + 1)))]) (rest := []) ⟨hx, hb, hml, hown, hts⟩ (c4_takeOutput l D g ti _ rd tb (.ref nb) k9 q9 es rs a t f1 f2 on ft fa fb fo n N o nm cd wt ty pa pb vo (cV tx L (pz + 1)) hV (cV_lt hX _)) (cwV 1 hts gX4_readStatement_X4_takeOutput rfl rfl rfl (by decide +kernel) ⟨Nat.le_of_ble_eq_true rfl, Nat.le_of_ble_eq_true rfl⟩) (hk_inV hE hP hD hS hA 4 rfl rfl [5, 0, 1, 2, 3, 4] (by decide) rfl rfl) rfl rfl hl.1 rfl (lv_room (Nat.le_of_ble_eq_true rfl)) dX4_readStatement_148 ⟨Nat.zero_le _, Nat.zero_le _⟩) hP hD hS hA [5, 0, 1, 2, 3, 4] [6, 7, 8] rfl rfl (by decide) (by decide) (fun rt u8 H locs hrt hP hD hS => ?_)
                    obtain ⟨o8, f8⟩ := u8
                    try dsimp only at hrt
                    have hP : va_P D vwCl [(tb, .inr (2, [.ref tc, .int (nI L)])), (tc, .inl (g.1, 200, .inl fc)), (nb, .inl (g.2.1, 3, .inl fn9)), (rd, .inr (4, [.ref tb, .ref a, .ref nb, .int k9, .int (nI q9), .int es, .int rs])), (a, .inr (1, [.ref t, .ref f1, .ref f2, .ref on, .int (nI n), .int (nI N), .int (nI o8), .long nm, .int (nI cd), .int (nI wt)])), (t, .inl (g.2.1, 30, .inl ft)), (f1, .inl (g.2.1, 30, .inl fa)), (f2, .inl (g.2.1, 30, .inl fb)), (on, .inl (g.2.1, 6, .inl f8))] H := hP
                    have hD : va_D A [(tb, .inr (2, [.ref tc, .int (nI L)])), (tc, .inl (g.1, 200, .inl fc)), (nb, .inl (g.2.1, 3, .inl fn9)), (rd, .inr (4, [.ref tb, .ref a, .ref nb, .int k9, .int (nI q9), .int es, .int rs])), (a, .inr (1, [.ref t, .ref f1, .ref f2, .ref on, .int (nI n), .int (nI N), .int (nI o8), .long nm, .int (nI cd), .int (nI wt)])), (t, .inl (g.2.1, 30, .inl ft)), (f1, .inl (g.2.1, 30, .inl fa)), (f2, .inl (g.2.1, 30, .inl fb)), (on, .inl (g.2.1, 6, .inl f8))] := hD
                    refine lv_goto (tgt := 164) hx hb dX4_readStatement_151 (by decide) ?_
                    have hP9 := hP.sub (ws' := [(rd, .inr (4, [.ref tb, .ref a, .ref nb, .int k9, .int (nI q9), .int es, .int rs])), (tb, .inr (2, [.ref tc, .int (nI L)])), (tc, .inl (g.1, 200, .inl fc)), (nb, .inl (g.2.1, 3, .inl fn9)), (a, .inr (1, [.ref t, .ref f1, .ref f2, .ref on, .int (nI n), .int (nI N), .int (nI o8), .long nm, .int (nI cd), .int (nI wt)])), (t, .inl (g.2.1, 30, .inl ft)), (f1, .inl (g.2.1, 30, .inl fa)), (f2, .inl (g.2.1, 30, .inl fb)), (on, .inl (g.2.1, 6, .inl f8))]) [3, 0, 1, 2, 4, 5, 6, 7, 8] rfl
                    have hD9 := hD.sub (ws' := [(rd, .inr (4, [.ref tb, .ref a, .ref nb, .int k9, .int (nI q9), .int es, .int rs])), (tb, .inr (2, [.ref tc, .int (nI L)])), (tc, .inl (g.1, 200, .inl fc)), (nb, .inl (g.2.1, 3, .inl fn9)), (a, .inr (1, [.ref t, .ref f1, .ref f2, .ref on, .int (nI n), .int (nI N), .int (nI o8), .long nm, .int (nI cd), .int (nI wt)])), (t, .inl (g.2.1, 30, .inl ft)), (f1, .inl (g.2.1, 30, .inl fa)), (f2, .inl (g.2.1, 30, .inl fb)), (on, .inl (g.2.1, 6, .inl f8))]) [3, 0, 1, 2, 4, 5, 6, 7, 8] (by decide) rfl
                    exact W.iret (v := rt) hx hb hr (fun tt ht hW => ⟨⟨_, (k9, q9, fn9, n, N, o8, nm, ft, fa, fb, f8), rfl, pS_o (mb_y0 c_1 c_6) (ca_n (k := 103) c_12) (n1_y hrn c_9).1 (n1_y hrn c_9).2.2.2.1 (ca_n (k := 105) c_11) (ca_e hX (k := 111) c_13) hrt, by rw [ht]; exact hP9, hD9⟩, hS.F ht⟩) hS.2.2 dX4_readStatement_164
                · have c_12h : nI (ca tx L pz) = (103 : Int32) := c_12
                  exact absurd c_12 c_8
              · have c_11h : nI (ca tx L pz) = (105 : Int32) := c_11
                refine lv_aload_n hx hb dX4_readStatement_95 rfl (lv_at hl 4 rfl) ?_
                refine lv_aload_n hx hb dX4_readStatement_96 rfl (lv_at hl 4 rfl) ?_
                refine va_get (D := D) (ci := 4) (v := .ref nb) (C := RX4) (T := TX4) (N := 7) hx hb hts hi4 hown hK hP 5 rfl rfl 2 (by decide) (hts (.fieldLink RX4 18 "SelfCheckingCircuit$TextReader" "numbers" "[I") (by decide +kernel)) (fun _ h9 => h9) rfl dX4_readStatement_97 ?_
                refine lv_iconst (v := 0) hx hb dX4_readStatement_100 (by decide) ?_
                refine va_iald hx hb hK hP 8 1 rfl rfl (by unfold vp_in; decide) dX4_readStatement_101 ?_
                refine hk_ti (fn9 0) (congrArg fn9 (by decide)) ?_
                refine hk_ti (nI (cV tx L (pz + 1))) ((n1_y hrn c_9).2.2.2.2) ?_
                refine hk_cmi (wr := [(tb, .inr (2, [.ref tc, .int (nI L)])), (tc, .inl (g.1, 200, .inl fc)), (nb, .inl (g.2.1, 3, .inl fn9))]) (va_runV (As := [.int (nI (cV tx L (pz + 1)))]) (rest := []) ⟨hx, hb, hml, hown, hts⟩ (c4_takeInputs l D g ti _ rd tb (.ref nb) k9 q9 es rs a t f1 f2 on ft fa fb fo n N o nm cd wt ty pa pb vo (cV tx L (pz + 1)) hV (cV_lt hX _)) (cwV 1 hts gX4_readStatement_X4_takeInputs rfl rfl rfl (by decide +kernel) ⟨Nat.le_of_ble_eq_true rfl, Nat.le_of_ble_eq_true rfl⟩) (hk_inV hE hP hD hS hA 4 rfl rfl [5, 0, 1, 2, 3, 4] (by decide) rfl rfl) rfl rfl hl.1 rfl (lv_room (Nat.le_of_ble_eq_true rfl)) dX4_readStatement_102 ⟨Nat.zero_le _, Nat.zero_le _⟩) hP hD hS hA [5, 0, 1, 2, 3, 4] [6, 7, 8] rfl rfl (by decide) (by decide) (fun rt u8 H locs hrt hP hD hS => ?_)
                obtain ⟨n8, N8, o8, m8, f8⟩ := u8
                try dsimp only at hrt
                have hP : va_P D vwCl [(tb, .inr (2, [.ref tc, .int (nI L)])), (tc, .inl (g.1, 200, .inl fc)), (nb, .inl (g.2.1, 3, .inl fn9)), (rd, .inr (4, [.ref tb, .ref a, .ref nb, .int k9, .int (nI q9), .int es, .int rs])), (a, .inr (1, [.ref t, .ref f1, .ref f2, .ref on, .int (nI n8), .int (nI N8), .int (nI o8), .long m8, .int (nI cd), .int (nI wt)])), (t, .inl (g.2.1, 30, .inl f8)), (f1, .inl (g.2.1, 30, .inl fa)), (f2, .inl (g.2.1, 30, .inl fb)), (on, .inl (g.2.1, 6, .inl fo))] H := hP
                have hD : va_D A [(tb, .inr (2, [.ref tc, .int (nI L)])), (tc, .inl (g.1, 200, .inl fc)), (nb, .inl (g.2.1, 3, .inl fn9)), (rd, .inr (4, [.ref tb, .ref a, .ref nb, .int k9, .int (nI q9), .int es, .int rs])), (a, .inr (1, [.ref t, .ref f1, .ref f2, .ref on, .int (nI n8), .int (nI N8), .int (nI o8), .long m8, .int (nI cd), .int (nI wt)])), (t, .inl (g.2.1, 30, .inl f8)), (f1, .inl (g.2.1, 30, .inl fa)), (f2, .inl (g.2.1, 30, .inl fb)), (on, .inl (g.2.1, 6, .inl fo))] := hD
                have hP9 := hP.sub (ws' := [(rd, .inr (4, [.ref tb, .ref a, .ref nb, .int k9, .int (nI q9), .int es, .int rs])), (tb, .inr (2, [.ref tc, .int (nI L)])), (tc, .inl (g.1, 200, .inl fc)), (nb, .inl (g.2.1, 3, .inl fn9)), (a, .inr (1, [.ref t, .ref f1, .ref f2, .ref on, .int (nI n8), .int (nI N8), .int (nI o8), .long m8, .int (nI cd), .int (nI wt)])), (t, .inl (g.2.1, 30, .inl f8)), (f1, .inl (g.2.1, 30, .inl fa)), (f2, .inl (g.2.1, 30, .inl fb)), (on, .inl (g.2.1, 6, .inl fo))]) [3, 0, 1, 2, 4, 5, 6, 7, 8] rfl
                have hD9 := hD.sub (ws' := [(rd, .inr (4, [.ref tb, .ref a, .ref nb, .int k9, .int (nI q9), .int es, .int rs])), (tb, .inr (2, [.ref tc, .int (nI L)])), (tc, .inl (g.1, 200, .inl fc)), (nb, .inl (g.2.1, 3, .inl fn9)), (a, .inr (1, [.ref t, .ref f1, .ref f2, .ref on, .int (nI n8), .int (nI N8), .int (nI o8), .long m8, .int (nI cd), .int (nI wt)])), (t, .inl (g.2.1, 30, .inl f8)), (f1, .inl (g.2.1, 30, .inl fa)), (f2, .inl (g.2.1, 30, .inl fb)), (on, .inl (g.2.1, 6, .inl fo))]) [3, 0, 1, 2, 4, 5, 6, 7, 8] (by decide) rfl
                exact W.iret (v := rt) hx hb hr (fun tt ht hW => ⟨⟨_, (k9, q9, fn9, n8, N8, o8, m8, f8, fa, fb, fo), rfl, pS_i (mb_y0 c_1 c_6) (ca_n (k := 103) c_8) (n1_y hrn c_9).1 (n1_y hrn c_9).2.2.2.1 (ca_e hX (k := 105) c_11) hrt, by rw [ht]; exact hP9, hD9⟩, hS.F ht⟩) hS.2.2 dX4_readStatement_105
            · have c_10h : ¬ (1 : Int32) ≤ k9 := c_10
              refine lv_iconst (v := 2) hx hb dX4_readStatement_87 (by decide) ?_
              have hP9 := hP.sub (ws' := [(rd, .inr (4, [.ref tb, .ref a, .ref nb, .int k9, .int (nI q9), .int es, .int rs])), (tb, .inr (2, [.ref tc, .int (nI L)])), (tc, .inl (g.1, 200, .inl fc)), (nb, .inl (g.2.1, 3, .inl fn9)), (a, .inr (1, [.ref t, .ref f1, .ref f2, .ref on, .int (nI n), .int (nI N), .int (nI o), .long nm, .int (nI cd), .int (nI wt)])), (t, .inl (g.2.1, 30, .inl ft)), (f1, .inl (g.2.1, 30, .inl fa)), (f2, .inl (g.2.1, 30, .inl fb)), (on, .inl (g.2.1, 6, .inl fo))]) [5, 6, 7, 8, 0, 1, 2, 3, 4] rfl
              have hD9 := hD.sub (ws' := [(rd, .inr (4, [.ref tb, .ref a, .ref nb, .int k9, .int (nI q9), .int es, .int rs])), (tb, .inr (2, [.ref tc, .int (nI L)])), (tc, .inl (g.1, 200, .inl fc)), (nb, .inl (g.2.1, 3, .inl fn9)), (a, .inr (1, [.ref t, .ref f1, .ref f2, .ref on, .int (nI n), .int (nI N), .int (nI o), .long nm, .int (nI cd), .int (nI wt)])), (t, .inl (g.2.1, 30, .inl ft)), (f1, .inl (g.2.1, 30, .inl fa)), (f2, .inl (g.2.1, 30, .inl fb)), (on, .inl (g.2.1, 6, .inl fo))]) [5, 6, 7, 8, 0, 1, 2, 3, 4] (by decide) rfl
              exact W.iret (v := 2) hx hb hr (fun tt ht hW => ⟨⟨_, (k9, q9, fn9, n, N, o, nm, ft, fa, fb, fo), rfl, pS_s2 hV (mb_y0 c_1 c_6) (ca_n (k := 103) c_8) (n1_k hrn c_10), by rw [ht]; exact hP9, hD9⟩, hS.F ht⟩) hS.2.2 dX4_readStatement_88
        · have c_8h : nI (ca tx L pz) = (103 : Int32) := c_8
          exact absurd c_8 c_7
      · have c_7h : nI (ca tx L pz) = (103 : Int32) := c_7
        refine lv_iconst (v := 2) hx hb dX4_readStatement_51 (by decide) ?_
        refine lv_goto (tgt := 56) hx hb dX4_readStatement_52 (by decide) ?_
        refine lv_istore_n (lv' := [(3, .int 2), (2, .int (nI (ca tx L pz))), (1, .int 0), (0, .ref rd)]) hx hb dX4_readStatement_56 rfl hl (by decide) rfl (fun ls hl => ?_)
        refine lv_iload_n hx hb dX4_readStatement_57 rfl (lv_at hl 1 rfl) ?_
        refine lv_bipush (v := 103) hx hb dX4_readStatement_58 (by decide) ?_
        refine lv_icmp_ne (tgt := 67) hx hb dX4_readStatement_60 (by decide) (fun c_14 => ?_) (fun c_14 => ?_)
        · have c_14h : ¬ nI (ca tx L pz) = (103 : Int32) := c_14
          exact absurd c_7 c_14
        · have c_14h : nI (ca tx L pz) = (103 : Int32) := c_14
          refine lv_iconst (v := 3) hx hb dX4_readStatement_63 (by decide) ?_
          refine lv_goto (tgt := 68) hx hb dX4_readStatement_64 (by decide) ?_
          refine lv_istore (lv' := [(4, .int 3), (3, .int 2), (2, .int (nI (ca tx L pz))), (1, .int 0), (0, .ref rd)]) hx hb dX4_readStatement_68 hl (by decide) rfl (fun ls hl => ?_)
          refine lv_aload_n hx hb dX4_readStatement_70 rfl (lv_at hl 4 rfl) ?_
          refine lv_iload hx hb dX4_readStatement_71 (lv_at hl 0 rfl) ?_
          refine hk_cmi (wr := [(a, .inr (1, [.ref t, .ref f1, .ref f2, .ref on, .int (nI n), .int (nI N), .int (nI o), .long nm, .int (nI cd), .int (nI wt)])), (t, .inl (g.2.1, 30, .inl ft)), (f1, .inl (g.2.1, 30, .inl fa)), (f2, .inl (g.2.1, 30, .inl fb)), (on, .inl (g.2.1, 6, .inl fo))]) (va_runV (As := [.int 3]) (rest := []) ⟨hx, hb, hml, hown, hts⟩ (c4_readNumbers_3 l D g ti _ rd tb tc fc tx L (pz + 1) (.ref a) nb fn kc es rs hX hcn (by omega)) (cwV 1 hts gX4_readStatement_X4_readNumbers rfl rfl rfl (by decide +kernel) ⟨Nat.le_of_ble_eq_true rfl, Nat.le_of_ble_eq_true rfl⟩) (hk_inV hE hP hD hS hA 4 rfl rfl [0, 1, 2, 3] (by decide) rfl rfl) rfl rfl hl.1 rfl (lv_room (Nat.le_of_ble_eq_true rfl)) dX4_readStatement_73 ⟨Nat.zero_le _, Nat.zero_le _⟩) hP hD hS hA [0, 1, 2, 3] [4, 5, 6, 7, 8] rfl rfl (by decide) (by decide) (fun rn u9 H locs hrn hP hD hS => ?_)
          obtain ⟨k9, q9, fn9⟩ := u9
          try dsimp only at hrn
          have hP : va_P D vwCl [(a, .inr (1, [.ref t, .ref f1, .ref f2, .ref on, .int (nI n), .int (nI N), .int (nI o), .long nm, .int (nI cd), .int (nI wt)])), (t, .inl (g.2.1, 30, .inl ft)), (f1, .inl (g.2.1, 30, .inl fa)), (f2, .inl (g.2.1, 30, .inl fb)), (on, .inl (g.2.1, 6, .inl fo)), (rd, .inr (4, [.ref tb, .ref a, .ref nb, .int k9, .int (nI q9), .int es, .int rs])), (tb, .inr (2, [.ref tc, .int (nI L)])), (tc, .inl (g.1, 200, .inl fc)), (nb, .inl (g.2.1, 3, .inl fn9))] H := hP
          have hD : va_D A [(a, .inr (1, [.ref t, .ref f1, .ref f2, .ref on, .int (nI n), .int (nI N), .int (nI o), .long nm, .int (nI cd), .int (nI wt)])), (t, .inl (g.2.1, 30, .inl ft)), (f1, .inl (g.2.1, 30, .inl fa)), (f2, .inl (g.2.1, 30, .inl fb)), (on, .inl (g.2.1, 6, .inl fo)), (rd, .inr (4, [.ref tb, .ref a, .ref nb, .int k9, .int (nI q9), .int es, .int rs])), (tb, .inr (2, [.ref tc, .int (nI L)])), (tc, .inl (g.1, 200, .inl fc)), (nb, .inl (g.2.1, 3, .inl fn9))] := hD
          refine lv_if_eq (tgt := 87) hx hb dX4_readStatement_76 (by decide) (fun c_15 => ?_) (fun c_15 => ?_)
          · have c_15h : rn = (0 : Int32) := c_15
            refine lv_iconst (v := 2) hx hb dX4_readStatement_87 (by decide) ?_
            have hP9 := hP.sub (ws' := [(rd, .inr (4, [.ref tb, .ref a, .ref nb, .int k9, .int (nI q9), .int es, .int rs])), (tb, .inr (2, [.ref tc, .int (nI L)])), (tc, .inl (g.1, 200, .inl fc)), (nb, .inl (g.2.1, 3, .inl fn9)), (a, .inr (1, [.ref t, .ref f1, .ref f2, .ref on, .int (nI n), .int (nI N), .int (nI o), .long nm, .int (nI cd), .int (nI wt)])), (t, .inl (g.2.1, 30, .inl ft)), (f1, .inl (g.2.1, 30, .inl fa)), (f2, .inl (g.2.1, 30, .inl fb)), (on, .inl (g.2.1, 6, .inl fo))]) [5, 6, 7, 8, 0, 1, 2, 3, 4] rfl
            have hD9 := hD.sub (ws' := [(rd, .inr (4, [.ref tb, .ref a, .ref nb, .int k9, .int (nI q9), .int es, .int rs])), (tb, .inr (2, [.ref tc, .int (nI L)])), (tc, .inl (g.1, 200, .inl fc)), (nb, .inl (g.2.1, 3, .inl fn9)), (a, .inr (1, [.ref t, .ref f1, .ref f2, .ref on, .int (nI n), .int (nI N), .int (nI o), .long nm, .int (nI cd), .int (nI wt)])), (t, .inl (g.2.1, 30, .inl ft)), (f1, .inl (g.2.1, 30, .inl fa)), (f2, .inl (g.2.1, 30, .inl fb)), (on, .inl (g.2.1, 6, .inl fo))]) [5, 6, 7, 8, 0, 1, 2, 3, 4] (by decide) rfl
            exact W.iret (v := 2) hx hb hr (fun tt ht hW => ⟨⟨_, (k9, q9, fn9, n, N, o, nm, ft, fa, fb, fo), rfl, pS_g2 hV (mb_y0 c_1 c_6) (ca_e hX (k := 103) c_14) (n3_n hrn c_15), by rw [ht]; exact hP9, hD9⟩, hS.F ht⟩) hS.2.2 dX4_readStatement_88
          · have c_15h : ¬ rn = (0 : Int32) := c_15
            refine lv_aload_n hx hb dX4_readStatement_79 rfl (lv_at hl 4 rfl) ?_
            refine va_get (D := D) (ci := 4) (v := .int k9) (C := RX4) (T := TX4) (N := 7) hx hb hts hi4 hown hK hP 5 rfl rfl 3 (by decide) (hts (.fieldLink RX4 65 "SelfCheckingCircuit$TextReader" "count" "I") (by decide +kernel)) (fun _ h9 => h9) rfl dX4_readStatement_80 ?_
            refine lv_iload_n hx hb dX4_readStatement_83 rfl (lv_at hl 1 rfl) ?_
            refine lv_icmp_ge (tgt := 89) hx hb dX4_readStatement_84 (by decide) (fun c_16 => ?_) (fun c_16 => ?_)
            · have c_16h : (2 : Int32) ≤ k9 := c_16
              refine lv_iload_n hx hb dX4_readStatement_89 rfl (lv_at hl 2 rfl) ?_
              refine lv_bipush (v := 105) hx hb dX4_readStatement_90 (by decide) ?_
              refine lv_icmp_ne (tgt := 106) hx hb dX4_readStatement_92 (by decide) (fun c_17 => ?_) (fun c_17 => ?_)
              · have c_17h : ¬ nI (ca tx L pz) = (105 : Int32) := c_17
                refine lv_iload_n hx hb dX4_readStatement_106 rfl (lv_at hl 2 rfl) ?_
                refine lv_bipush (v := 103) hx hb dX4_readStatement_107 (by decide) ?_
                refine lv_icmp_ne (tgt := 135) hx hb dX4_readStatement_109 (by decide) (fun c_18 => ?_) (fun c_18 => ?_)
                · have c_18h : ¬ nI (ca tx L pz) = (103 : Int32) := c_18
                  exact absurd c_14 c_18
                · have c_18h : nI (ca tx L pz) = (103 : Int32) := c_18
                  have hy := n3_y hrn c_15 c_16
                  have hk9 := hy.2.2.1
                  subst hk9
                  have hP : va_P D vwCl [(a, .inr (1, [.ref t, .ref f1, .ref f2, .ref on, .int (nI n), .int (nI N), .int (nI o), .long nm, .int (nI cd), .int (nI wt)])), (t, .inl (g.2.1, 30, .inl ft)), (f1, .inl (g.2.1, 30, .inl fa)), (f2, .inl (g.2.1, 30, .inl fb)), (on, .inl (g.2.1, 6, .inl fo)), (rd, .inr (4, [.ref tb, .ref a, .ref nb, .int (nI (gk tx L (pz + 1))), .int (nI q9), .int es, .int rs])), (tb, .inr (2, [.ref tc, .int (nI L)])), (tc, .inl (g.1, 200, .inl fc)), (nb, .inl (g.2.1, 3, .inl fn9))] H := hP
                  have hD : va_D A [(a, .inr (1, [.ref t, .ref f1, .ref f2, .ref on, .int (nI n), .int (nI N), .int (nI o), .long nm, .int (nI cd), .int (nI wt)])), (t, .inl (g.2.1, 30, .inl ft)), (f1, .inl (g.2.1, 30, .inl fa)), (f2, .inl (g.2.1, 30, .inl fb)), (on, .inl (g.2.1, 6, .inl fo)), (rd, .inr (4, [.ref tb, .ref a, .ref nb, .int (nI (gk tx L (pz + 1))), .int (nI q9), .int es, .int rs])), (tb, .inr (2, [.ref tc, .int (nI L)])), (tc, .inl (g.1, 200, .inl fc)), (nb, .inl (g.2.1, 3, .inl fn9))] := hD
                  refine lv_aload_n hx hb dX4_readStatement_112 rfl (lv_at hl 4 rfl) ?_
                  refine lv_aload_n hx hb dX4_readStatement_113 rfl (lv_at hl 4 rfl) ?_
                  refine va_get (D := D) (ci := 4) (v := .ref nb) (C := RX4) (T := TX4) (N := 7) hx hb hts hi4 hown hK hP 5 rfl rfl 2 (by decide) (hts (.fieldLink RX4 18 "SelfCheckingCircuit$TextReader" "numbers" "[I") (by decide +kernel)) (fun _ h9 => h9) rfl dX4_readStatement_114 ?_
                  refine lv_iconst (v := 0) hx hb dX4_readStatement_117 (by decide) ?_
                  refine va_iald hx hb hK hP 8 1 rfl rfl (by unfold vp_in; decide) dX4_readStatement_118 ?_
                  refine hk_ti (fn9 0) (congrArg fn9 (by decide)) ?_
                  refine hk_ti (nI (cV tx L (pz + 1))) (hy.2.2.2.2.1) ?_
                  refine lv_aload_n hx hb dX4_readStatement_119 rfl (lv_at hl 4 rfl) ?_
                  refine va_get (D := D) (ci := 4) (v := .ref nb) (C := RX4) (T := TX4) (N := 7) hx hb hts hi4 hown hK hP 5 rfl rfl 2 (by decide) (hts (.fieldLink RX4 18 "SelfCheckingCircuit$TextReader" "numbers" "[I") (by decide +kernel)) (fun _ h9 => h9) rfl dX4_readStatement_120 ?_
                  refine lv_iconst (v := 1) hx hb dX4_readStatement_123 (by decide) ?_
                  refine va_iald hx hb hK hP 8 1 rfl rfl (by unfold vp_in; decide) dX4_readStatement_124 ?_
                  refine hk_ti (fn9 1) (congrArg fn9 (by decide)) ?_
                  refine hk_ti (nI (cV tx L (cP tx L (pz + 1) + 1))) (hy.2.2.2.2.2.1) ?_
                  refine lv_aload_n hx hb dX4_readStatement_125 rfl (lv_at hl 4 rfl) ?_
                  refine va_get (D := D) (ci := 4) (v := .ref nb) (C := RX4) (T := TX4) (N := 7) hx hb hts hi4 hown hK hP 5 rfl rfl 2 (by decide) (hts (.fieldLink RX4 18 "SelfCheckingCircuit$TextReader" "numbers" "[I") (by decide +kernel)) (fun _ h9 => h9) rfl dX4_readStatement_126 ?_
                  refine lv_iconst (v := 2) hx hb dX4_readStatement_129 (by decide) ?_
                  refine va_iald hx hb hK hP 8 1 rfl rfl (by unfold vp_in; decide) dX4_readStatement_130 ?_
                  refine hk_ti (fn9 2) (congrArg fn9 (by decide)) ?_
                  refine hk_cmi (wr := [(tb, .inr (2, [.ref tc, .int (nI L)])), (tc, .inl (g.1, 200, .inl fc)), (nb, .inl (g.2.1, 3, .inl fn9))]) (va_runV (As := [.int (nI (cV tx L (pz + 1))), .int (nI (cV tx L (cP tx L (pz + 1) + 1))), .int (fn9 2)]) (rest := []) ⟨hx, hb, hml, hown, hts⟩ (c4_takeGate l D g ti _ rd tb (.ref nb) kc q9 es rs a t f1 f2 on ft fa fb fo n N o nm cd wt ty pa pb vo (cV tx L (pz + 1)) (cV tx L (cP tx L (pz + 1) + 1)) (cV tx L (cP tx L (cP tx L (pz + 1) + 1) + 1)) (fn9 2) (gk tx L (pz + 1)) hV gk_2 (cV_lt hX _) (cV_lt hX _) (fun q => ⟨hy.2.2.2.2.2.2 (gb_3 q), cV_lt hX _⟩)) (cwV 3 hts gX4_readStatement_X4_takeGate rfl rfl rfl (by decide +kernel) ⟨Nat.le_of_ble_eq_true rfl, Nat.le_of_ble_eq_true rfl⟩) (hk_inV hE hP hD hS hA 4 rfl rfl [5, 0, 1, 2, 3, 4] (by decide) rfl rfl) rfl rfl hl.1 rfl (lv_room (Nat.le_of_ble_eq_true rfl)) dX4_readStatement_131 ⟨Nat.zero_le _, Nat.zero_le _⟩) hP hD hS hA [5, 0, 1, 2, 3, 4] [6, 7, 8] rfl rfl (by decide) (by decide) (fun rt u8 H locs hrt hP hD hS => ?_)
                  obtain ⟨N8, f8, f81, f82⟩ := u8
                  try dsimp only at hrt
                  have hP : va_P D vwCl [(tb, .inr (2, [.ref tc, .int (nI L)])), (tc, .inl (g.1, 200, .inl fc)), (nb, .inl (g.2.1, 3, .inl fn9)), (rd, .inr (4, [.ref tb, .ref a, .ref nb, .int (nI (gk tx L (pz + 1))), .int (nI q9), .int es, .int rs])), (a, .inr (1, [.ref t, .ref f1, .ref f2, .ref on, .int (nI n), .int (nI N8), .int (nI o), .long nm, .int (nI cd), .int (nI wt)])), (t, .inl (g.2.1, 30, .inl f8)), (f1, .inl (g.2.1, 30, .inl f81)), (f2, .inl (g.2.1, 30, .inl f82)), (on, .inl (g.2.1, 6, .inl fo))] H := hP
                  have hD : va_D A [(tb, .inr (2, [.ref tc, .int (nI L)])), (tc, .inl (g.1, 200, .inl fc)), (nb, .inl (g.2.1, 3, .inl fn9)), (rd, .inr (4, [.ref tb, .ref a, .ref nb, .int (nI (gk tx L (pz + 1))), .int (nI q9), .int es, .int rs])), (a, .inr (1, [.ref t, .ref f1, .ref f2, .ref on, .int (nI n), .int (nI N8), .int (nI o), .long nm, .int (nI cd), .int (nI wt)])), (t, .inl (g.2.1, 30, .inl f8)), (f1, .inl (g.2.1, 30, .inl f81)), (f2, .inl (g.2.1, 30, .inl f82)), (on, .inl (g.2.1, 6, .inl fo))] := hD
                  have hP9 := hP.sub (ws' := [(rd, .inr (4, [.ref tb, .ref a, .ref nb, .int (nI (gk tx L (pz + 1))), .int (nI q9), .int es, .int rs])), (tb, .inr (2, [.ref tc, .int (nI L)])), (tc, .inl (g.1, 200, .inl fc)), (nb, .inl (g.2.1, 3, .inl fn9)), (a, .inr (1, [.ref t, .ref f1, .ref f2, .ref on, .int (nI n), .int (nI N8), .int (nI o), .long nm, .int (nI cd), .int (nI wt)])), (t, .inl (g.2.1, 30, .inl f8)), (f1, .inl (g.2.1, 30, .inl f81)), (f2, .inl (g.2.1, 30, .inl f82)), (on, .inl (g.2.1, 6, .inl fo))]) [3, 0, 1, 2, 4, 5, 6, 7, 8] rfl
                  have hD9 := hD.sub (ws' := [(rd, .inr (4, [.ref tb, .ref a, .ref nb, .int (nI (gk tx L (pz + 1))), .int (nI q9), .int es, .int rs])), (tb, .inr (2, [.ref tc, .int (nI L)])), (tc, .inl (g.1, 200, .inl fc)), (nb, .inl (g.2.1, 3, .inl fn9)), (a, .inr (1, [.ref t, .ref f1, .ref f2, .ref on, .int (nI n), .int (nI N8), .int (nI o), .long nm, .int (nI cd), .int (nI wt)])), (t, .inl (g.2.1, 30, .inl f8)), (f1, .inl (g.2.1, 30, .inl f81)), (f2, .inl (g.2.1, 30, .inl f82)), (on, .inl (g.2.1, 6, .inl fo))]) [3, 0, 1, 2, 4, 5, 6, 7, 8] (by decide) rfl
                  exact W.iret (v := rt) hx hb hr (fun tt ht hW => ⟨⟨_, ((nI (gk tx L (pz + 1))), q9, fn9, n, N8, o, nm, f8, f81, f82, fo), rfl, pS_g (mb_y0 c_1 c_6) (ca_e hX (k := 103) c_18) hy.1 hy.2.2.2.1 hrt, by rw [ht]; exact hP9, hD9⟩, hS.F ht⟩) hS.2.2 dX4_readStatement_134
              · have c_17h : nI (ca tx L pz) = (105 : Int32) := c_17
                exact absurd (c_14.symm.trans c_17) (by decide)
            · have c_16h : ¬ (2 : Int32) ≤ k9 := c_16
              refine lv_iconst (v := 2) hx hb dX4_readStatement_87 (by decide) ?_
              have hP9 := hP.sub (ws' := [(rd, .inr (4, [.ref tb, .ref a, .ref nb, .int k9, .int (nI q9), .int es, .int rs])), (tb, .inr (2, [.ref tc, .int (nI L)])), (tc, .inl (g.1, 200, .inl fc)), (nb, .inl (g.2.1, 3, .inl fn9)), (a, .inr (1, [.ref t, .ref f1, .ref f2, .ref on, .int (nI n), .int (nI N), .int (nI o), .long nm, .int (nI cd), .int (nI wt)])), (t, .inl (g.2.1, 30, .inl ft)), (f1, .inl (g.2.1, 30, .inl fa)), (f2, .inl (g.2.1, 30, .inl fb)), (on, .inl (g.2.1, 6, .inl fo))]) [5, 6, 7, 8, 0, 1, 2, 3, 4] rfl
              have hD9 := hD.sub (ws' := [(rd, .inr (4, [.ref tb, .ref a, .ref nb, .int k9, .int (nI q9), .int es, .int rs])), (tb, .inr (2, [.ref tc, .int (nI L)])), (tc, .inl (g.1, 200, .inl fc)), (nb, .inl (g.2.1, 3, .inl fn9)), (a, .inr (1, [.ref t, .ref f1, .ref f2, .ref on, .int (nI n), .int (nI N), .int (nI o), .long nm, .int (nI cd), .int (nI wt)])), (t, .inl (g.2.1, 30, .inl ft)), (f1, .inl (g.2.1, 30, .inl fa)), (f2, .inl (g.2.1, 30, .inl fb)), (on, .inl (g.2.1, 6, .inl fo))]) [5, 6, 7, 8, 0, 1, 2, 3, 4] (by decide) rfl
              exact W.iret (v := 2) hx hb hr (fun tt ht hW => ⟨⟨_, (k9, q9, fn9, n, N, o, nm, ft, fa, fb, fo), rfl, pS_g2 hV (mb_y0 c_1 c_6) (ca_e hX (k := 103) c_14) (n3_k hrn c_16), by rw [ht]; exact hP9, hD9⟩, hS.F ht⟩) hS.2.2 dX4_readStatement_88
    · have c_6h : bI (mb0 (ca tx L pz)) = (0 : Int32) := c_6
      refine lv_iconst (v := 1) hx hb dX4_readStatement_43 (by decide) ?_
      have hP9 := hP.sub (ws' := [(rd, .inr (4, [.ref tb, .ref a, .ref nb, .int kc, .int (nI (pz + 1)), .int es, .int rs])), (tb, .inr (2, [.ref tc, .int (nI L)])), (tc, .inl (g.1, 200, .inl fc)), (nb, .inl (g.2.1, 3, .inl fn)), (a, .inr (1, [.ref t, .ref f1, .ref f2, .ref on, .int (nI n), .int (nI N), .int (nI o), .long nm, .int (nI cd), .int (nI wt)])), (t, .inl (g.2.1, 30, .inl ft)), (f1, .inl (g.2.1, 30, .inl fa)), (f2, .inl (g.2.1, 30, .inl fb)), (on, .inl (g.2.1, 6, .inl fo))]) [0, 1, 2, 3, 4, 5, 6, 7, 8] rfl
      have hD9 := hD.sub (ws' := [(rd, .inr (4, [.ref tb, .ref a, .ref nb, .int kc, .int (nI (pz + 1)), .int es, .int rs])), (tb, .inr (2, [.ref tc, .int (nI L)])), (tc, .inl (g.1, 200, .inl fc)), (nb, .inl (g.2.1, 3, .inl fn)), (a, .inr (1, [.ref t, .ref f1, .ref f2, .ref on, .int (nI n), .int (nI N), .int (nI o), .long nm, .int (nI cd), .int (nI wt)])), (t, .inl (g.2.1, 30, .inl ft)), (f1, .inl (g.2.1, 30, .inl fa)), (f2, .inl (g.2.1, 30, .inl fb)), (on, .inl (g.2.1, 6, .inl fo))]) [0, 1, 2, 3, 4, 5, 6, 7, 8] (by decide) rfl
      exact W.iret (v := 1) hx hb hr (fun tt ht hW => ⟨⟨_, (kc, (pz + 1), fn, n, N, o, nm, ft, fa, fb, fo), rfl, pS_1 hV (mb_n0 c_1 c_6), by rw [ht]; exact hP9, hD9⟩, hS.F ht⟩) hS.2.2 dX4_readStatement_44
  · have c_1h : nI pz = (0 : Int32) := c_1
    refine lv_iconst (v := 1) hx hb dX4_readStatement_7 (by decide) ?_
    refine lv_goto (tgt := 12) hx hb dX4_readStatement_8 (by decide) ?_
    refine lv_istore_n (lv' := [(1, .int 1), (0, .ref rd)]) hx hb dX4_readStatement_12 rfl hl (by decide) rfl (fun ls hl => ?_)
    refine lv_aload_n hx hb dX4_readStatement_13 rfl (lv_at hl 1 rfl) ?_
    refine va_get (D := D) (ci := 4) (v := .ref tb) (C := RX4) (T := TX4) (N := 7) hx hb hts hi4 hown hK hP 0 rfl rfl 0 (by decide) (hts (.fieldLink RX4 22 "SelfCheckingCircuit$TextReader" "text" "LSelfCheckingCircuit$CircuitText;") (by decide +kernel)) (fun _ h9 => h9) rfl dX4_readStatement_14 ?_
    refine lv_aload_n hx hb dX4_readStatement_17 rfl (lv_at hl 1 rfl) ?_
    refine va_get (D := D) (ci := 4) (v := .int (nI pz)) (C := RX4) (T := TX4) (N := 7) hx hb hts hi4 hown hK hP 0 rfl rfl 4 (by decide) (hts (.fieldLink RX4 33 "SelfCheckingCircuit$TextReader" "position" "I") (by decide +kernel)) (fun _ h9 => h9) rfl dX4_readStatement_18 ?_
    refine hk_csi (va_runVN (As := [.int (nI pz)]) (rest := []) ⟨hx, hb, hml, hown, hts⟩ (c2_at l D g ti tb tc fc (nI L) (nI pz) hcn) ⟨va_cnB 1 hts gX4_readStatement_X2_at_n53 rfl rfl rfl (nm_X4_53 hE.2.1) (hts (.initialized RX2) (by decide +kernel)) (by decide +kernel) ⟨Nat.le_of_ble_eq_true rfl, Nat.le_of_ble_eq_true rfl⟩, hts (.instanceMethod yX2_at) (by decide +kernel), hts (.selects RX2 yX2_at yX2_at) (by decide +kernel)⟩ (hk_roV hE hP hS 2 rfl rfl [1, 2] rfl rfl) rfl rfl hl.1 rfl (lv_room (Nat.le_of_ble_eq_true rfl)) dX4_readStatement_21 ⟨Nat.zero_le _, Nat.zero_le _⟩) (fun r_19 hr_20 => ?_)
    subst hr_20
    refine hk_ti (nI (ca tx L pz)) (at_n hX (by omega)) ?_
    refine lv_istore_n (lv' := [(2, .int (nI (ca tx L pz))), (1, .int 1), (0, .ref rd)]) hx hb dX4_readStatement_24 rfl hl (by decide) rfl (fun ls hl => ?_)
    refine lv_aload_n hx hb dX4_readStatement_25 rfl (lv_at hl 2 rfl) ?_
    refine lv_dup hx hb dX4_readStatement_26 rfl ?_
    refine va_get (D := D) (ci := 4) (v := .int (nI pz)) (C := RX4) (T := TX4) (N := 7) hx hb hts hi4 hown hK hP 0 rfl rfl 4 (by decide) (hts (.fieldLink RX4 33 "SelfCheckingCircuit$TextReader" "position" "I") (by decide +kernel)) (fun _ h9 => h9) rfl dX4_readStatement_27 ?_
    refine lv_iconst (v := 1) hx hb dX4_readStatement_30 (by decide) ?_
    refine lv_iadd hx hb dX4_readStatement_31 ?_
    refine hk_ti (nI (pz + 1)) (nI_1 pz) ?_
    refine va_put (D := D) (ci := 4) (v := .int (nI (pz + 1))) (ty := .int) (C := RX4) (T := TX4) (N := 7) hx hb hts hi4 tyX4 tyX4_ok nmX4 hown hK hP hD hS 0 rfl rfl 4 (by decide) (hts (.fieldLink RX4 33 "SelfCheckingCircuit$TextReader" "position" "I") (by decide +kernel)) (fun _ h9 => h9) rfl (by decide +kernel) rfl rfl (Nat.le_of_ble_eq_true rfl) dX4_readStatement_32 (fun H locs hP hD hS => ?_)
    have hP : va_P D vwCl [(rd, .inr (4, [.ref tb, .ref a, .ref nb, .int kc, .int (nI (pz + 1)), .int es, .int rs])), (tb, .inr (2, [.ref tc, .int (nI L)])), (tc, .inl (g.1, 200, .inl fc)), (nb, .inl (g.2.1, 3, .inl fn)), (a, .inr (1, [.ref t, .ref f1, .ref f2, .ref on, .int (nI n), .int (nI N), .int (nI o), .long nm, .int (nI cd), .int (nI wt)])), (t, .inl (g.2.1, 30, .inl ft)), (f1, .inl (g.2.1, 30, .inl fa)), (f2, .inl (g.2.1, 30, .inl fb)), (on, .inl (g.2.1, 6, .inl fo))] H := hP
    have hD : va_D A [(rd, .inr (4, [.ref tb, .ref a, .ref nb, .int kc, .int (nI (pz + 1)), .int es, .int rs])), (tb, .inr (2, [.ref tc, .int (nI L)])), (tc, .inl (g.1, 200, .inl fc)), (nb, .inl (g.2.1, 3, .inl fn)), (a, .inr (1, [.ref t, .ref f1, .ref f2, .ref on, .int (nI n), .int (nI N), .int (nI o), .long nm, .int (nI cd), .int (nI wt)])), (t, .inl (g.2.1, 30, .inl ft)), (f1, .inl (g.2.1, 30, .inl fa)), (f2, .inl (g.2.1, 30, .inl fb)), (on, .inl (g.2.1, 6, .inl fo))] := hD
    refine lv_iload_n hx hb dX4_readStatement_35 rfl (lv_at hl 0 rfl) ?_
    refine lv_iload_n hx hb dX4_readStatement_36 rfl (lv_at hl 1 rfl) ?_
    refine hk_csi (va_runS (As := [.int (nI (ca tx L pz)), .int 1]) (rest := []) ⟨hx, hb, hml, hown, hts⟩ (c4_mayBegin l D g ti (nI (ca tx L pz)) 1 ) (va_cwS 2 hts gX4_readStatement_X4_mayBegin rfl rfl rfl (by decide +kernel) ⟨Nat.le_of_ble_eq_true rfl, Nat.le_of_ble_eq_true rfl⟩) (hk_roS hE hP hS [] rfl) rfl rfl hl.1 rfl (lv_room (Nat.le_of_ble_eq_true rfl)) dX4_readStatement_37 ⟨Nat.zero_le _, Nat.zero_le _⟩) (fun r_21 hr_22 => ?_)
    subst hr_22
    refine hk_ti (bI (decide (ca tx L pz = 105))) (mb_1 (ca_lt hX _)) ?_
    refine lv_if_ne (tgt := 45) hx hb dX4_readStatement_40 (by decide) (fun c_23 => ?_) (fun c_23 => ?_)
    · have c_23h : ¬ bI (decide (ca tx L pz = 105)) = (0 : Int32) := c_23
      refine lv_iload_n hx hb dX4_readStatement_45 rfl (lv_at hl 0 rfl) ?_
      refine lv_bipush (v := 103) hx hb dX4_readStatement_46 (by decide) ?_
      refine lv_icmp_ne (tgt := 55) hx hb dX4_readStatement_48 (by decide) (fun c_24 => ?_) (fun c_24 => ?_)
      · have c_24h : ¬ nI (ca tx L pz) = (103 : Int32) := c_24
        refine lv_iconst (v := 1) hx hb dX4_readStatement_55 (by decide) ?_
        refine lv_istore_n (lv' := [(3, .int 1), (2, .int (nI (ca tx L pz))), (1, .int 1), (0, .ref rd)]) hx hb dX4_readStatement_56 rfl hl (by decide) rfl (fun ls hl => ?_)
        refine lv_iload_n hx hb dX4_readStatement_57 rfl (lv_at hl 1 rfl) ?_
        refine lv_bipush (v := 103) hx hb dX4_readStatement_58 (by decide) ?_
        refine lv_icmp_ne (tgt := 67) hx hb dX4_readStatement_60 (by decide) (fun c_25 => ?_) (fun c_25 => ?_)
        · have c_25h : ¬ nI (ca tx L pz) = (103 : Int32) := c_25
          refine lv_iconst (v := 1) hx hb dX4_readStatement_67 (by decide) ?_
          refine lv_istore (lv' := [(4, .int 1), (3, .int 1), (2, .int (nI (ca tx L pz))), (1, .int 1), (0, .ref rd)]) hx hb dX4_readStatement_68 hl (by decide) rfl (fun ls hl => ?_)
          refine lv_aload_n hx hb dX4_readStatement_70 rfl (lv_at hl 4 rfl) ?_
          refine lv_iload hx hb dX4_readStatement_71 (lv_at hl 0 rfl) ?_
          refine hk_cmi (wr := [(a, .inr (1, [.ref t, .ref f1, .ref f2, .ref on, .int (nI n), .int (nI N), .int (nI o), .long nm, .int (nI cd), .int (nI wt)])), (t, .inl (g.2.1, 30, .inl ft)), (f1, .inl (g.2.1, 30, .inl fa)), (f2, .inl (g.2.1, 30, .inl fb)), (on, .inl (g.2.1, 6, .inl fo))]) (va_runV (As := [.int 1]) (rest := []) ⟨hx, hb, hml, hown, hts⟩ (c4_readNumbers_1 l D g ti _ rd tb tc fc tx L (pz + 1) (.ref a) nb fn kc es rs hX hcn (by omega)) (cwV 1 hts gX4_readStatement_X4_readNumbers rfl rfl rfl (by decide +kernel) ⟨Nat.le_of_ble_eq_true rfl, Nat.le_of_ble_eq_true rfl⟩) (hk_inV hE hP hD hS hA 4 rfl rfl [0, 1, 2, 3] (by decide) rfl rfl) rfl rfl hl.1 rfl (lv_room (Nat.le_of_ble_eq_true rfl)) dX4_readStatement_73 ⟨Nat.zero_le _, Nat.zero_le _⟩) hP hD hS hA [0, 1, 2, 3] [4, 5, 6, 7, 8] rfl rfl (by decide) (by decide) (fun rn u9 H locs hrn hP hD hS => ?_)
          obtain ⟨k9, q9, fn9⟩ := u9
          try dsimp only at hrn
          have hP : va_P D vwCl [(a, .inr (1, [.ref t, .ref f1, .ref f2, .ref on, .int (nI n), .int (nI N), .int (nI o), .long nm, .int (nI cd), .int (nI wt)])), (t, .inl (g.2.1, 30, .inl ft)), (f1, .inl (g.2.1, 30, .inl fa)), (f2, .inl (g.2.1, 30, .inl fb)), (on, .inl (g.2.1, 6, .inl fo)), (rd, .inr (4, [.ref tb, .ref a, .ref nb, .int k9, .int (nI q9), .int es, .int rs])), (tb, .inr (2, [.ref tc, .int (nI L)])), (tc, .inl (g.1, 200, .inl fc)), (nb, .inl (g.2.1, 3, .inl fn9))] H := hP
          have hD : va_D A [(a, .inr (1, [.ref t, .ref f1, .ref f2, .ref on, .int (nI n), .int (nI N), .int (nI o), .long nm, .int (nI cd), .int (nI wt)])), (t, .inl (g.2.1, 30, .inl ft)), (f1, .inl (g.2.1, 30, .inl fa)), (f2, .inl (g.2.1, 30, .inl fb)), (on, .inl (g.2.1, 6, .inl fo)), (rd, .inr (4, [.ref tb, .ref a, .ref nb, .int k9, .int (nI q9), .int es, .int rs])), (tb, .inr (2, [.ref tc, .int (nI L)])), (tc, .inl (g.1, 200, .inl fc)), (nb, .inl (g.2.1, 3, .inl fn9))] := hD
          refine lv_if_eq (tgt := 87) hx hb dX4_readStatement_76 (by decide) (fun c_26 => ?_) (fun c_26 => ?_)
          · have c_26h : rn = (0 : Int32) := c_26
            refine lv_iconst (v := 2) hx hb dX4_readStatement_87 (by decide) ?_
            have hP9 := hP.sub (ws' := [(rd, .inr (4, [.ref tb, .ref a, .ref nb, .int k9, .int (nI q9), .int es, .int rs])), (tb, .inr (2, [.ref tc, .int (nI L)])), (tc, .inl (g.1, 200, .inl fc)), (nb, .inl (g.2.1, 3, .inl fn9)), (a, .inr (1, [.ref t, .ref f1, .ref f2, .ref on, .int (nI n), .int (nI N), .int (nI o), .long nm, .int (nI cd), .int (nI wt)])), (t, .inl (g.2.1, 30, .inl ft)), (f1, .inl (g.2.1, 30, .inl fa)), (f2, .inl (g.2.1, 30, .inl fb)), (on, .inl (g.2.1, 6, .inl fo))]) [5, 6, 7, 8, 0, 1, 2, 3, 4] rfl
            have hD9 := hD.sub (ws' := [(rd, .inr (4, [.ref tb, .ref a, .ref nb, .int k9, .int (nI q9), .int es, .int rs])), (tb, .inr (2, [.ref tc, .int (nI L)])), (tc, .inl (g.1, 200, .inl fc)), (nb, .inl (g.2.1, 3, .inl fn9)), (a, .inr (1, [.ref t, .ref f1, .ref f2, .ref on, .int (nI n), .int (nI N), .int (nI o), .long nm, .int (nI cd), .int (nI wt)])), (t, .inl (g.2.1, 30, .inl ft)), (f1, .inl (g.2.1, 30, .inl fa)), (f2, .inl (g.2.1, 30, .inl fb)), (on, .inl (g.2.1, 6, .inl fo))]) [5, 6, 7, 8, 0, 1, 2, 3, 4] (by decide) rfl
            exact W.iret (v := 2) hx hb hr (fun tt ht hW => ⟨⟨_, (k9, q9, fn9, n, N, o, nm, ft, fa, fb, fo), rfl, pS_s2 hV (mb_y1 c_1 hp c_23) (ca_n (k := 103) c_25) (n1_n hrn c_26), by rw [ht]; exact hP9, hD9⟩, hS.F ht⟩) hS.2.2 dX4_readStatement_88
          · have c_26h : ¬ rn = (0 : Int32) := c_26
            refine lv_aload_n hx hb dX4_readStatement_79 rfl (lv_at hl 4 rfl) ?_
            refine va_get (D := D) (ci := 4) (v := .int k9) (C := RX4) (T := TX4) (N := 7) hx hb hts hi4 hown hK hP 5 rfl rfl 3 (by decide) (hts (.fieldLink RX4 65 "SelfCheckingCircuit$TextReader" "count" "I") (by decide +kernel)) (fun _ h9 => h9) rfl dX4_readStatement_80 ?_
            refine lv_iload_n hx hb dX4_readStatement_83 rfl (lv_at hl 1 rfl) ?_
            refine lv_icmp_ge (tgt := 89) hx hb dX4_readStatement_84 (by decide) (fun c_27 => ?_) (fun c_27 => ?_)
            · have c_27h : (1 : Int32) ≤ k9 := c_27
              refine lv_iload_n hx hb dX4_readStatement_89 rfl (lv_at hl 2 rfl) ?_
              refine lv_bipush (v := 105) hx hb dX4_readStatement_90 (by decide) ?_
              refine lv_icmp_ne (tgt := 106) hx hb dX4_readStatement_92 (by decide) (fun c_28 => ?_) (fun c_28 => ?_)
              · have c_28h : ¬ nI (ca tx L pz) = (105 : Int32) := c_28
                refine lv_iload_n hx hb dX4_readStatement_106 rfl (lv_at hl 2 rfl) ?_
                refine lv_bipush (v := 103) hx hb dX4_readStatement_107 (by decide) ?_
                refine lv_icmp_ne (tgt := 135) hx hb dX4_readStatement_109 (by decide) (fun c_29 => ?_) (fun c_29 => ?_)
                · have c_29h : ¬ nI (ca tx L pz) = (103 : Int32) := c_29
                  refine lv_iload_n hx hb dX4_readStatement_135 rfl (lv_at hl 2 rfl) ?_
                  refine lv_bipush (v := 111) hx hb dX4_readStatement_136 (by decide) ?_
                  refine lv_icmp_ne (tgt := 154) hx hb dX4_readStatement_138 (by decide) (fun c_30 => ?_) (fun c_30 => ?_)
                  · have c_30h : ¬ nI (ca tx L pz) = (111 : Int32) := c_30
                    refine lv_aload_n hx hb dX4_readStatement_154 rfl (lv_at hl 4 rfl) ?_
                    refine lv_aload_n hx hb dX4_readStatement_155 rfl (lv_at hl 4 rfl) ?_
                    refine va_get (D := D) (ci := 4) (v := .ref nb) (C := RX4) (T := TX4) (N := 7) hx hb hts hi4 hown hK hP 5 rfl rfl 2 (by decide) (hts (.fieldLink RX4 18 "SelfCheckingCircuit$TextReader" "numbers" "[I") (by decide +kernel)) (fun _ h9 => h9) rfl dX4_readStatement_156 ?_
                    refine lv_iconst (v := 0) hx hb dX4_readStatement_159 (by decide) ?_
                    refine va_iald hx hb hK hP 8 1 rfl rfl (by unfold vp_in; decide) dX4_readStatement_160 ?_
                    refine hk_ti (fn9 0) (congrArg fn9 (by decide)) ?_
                    refine hk_ti (nI (cV tx L (pz + 1))) ((n1_y hrn c_26).2.2.2.2) ?_
                    refine hk_cmi (wr := [(tb, .inr (2, [.ref tc, .int (nI L)])), (tc, .inl (g.1, 200, .inl fc)), (nb, .inl (g.2.1, 3, .inl fn9))]) (va_runV (As := [.int (nI (cV tx L (pz + 1)))]) (rest := []) ⟨hx, hb, hml, hown, hts⟩ (c4_takeNormal l D g ti _ rd tb (.ref nb) k9 q9 es rs a t f1 f2 on ft fa fb fo n N o nm cd wt ty pa pb vo (cV tx L (pz + 1)) hV (cV_lt hX _)) (cwV 1 hts gX4_readStatement_X4_takeNormal rfl rfl rfl (by decide +kernel) ⟨Nat.le_of_ble_eq_true rfl, Nat.le_of_ble_eq_true rfl⟩) (hk_inV hE hP hD hS hA 4 rfl rfl [5, 0, 1, 2, 3, 4] (by decide) rfl rfl) rfl rfl hl.1 rfl (lv_room (Nat.le_of_ble_eq_true rfl)) dX4_readStatement_161 ⟨Nat.zero_le _, Nat.zero_le _⟩) hP hD hS hA [5, 0, 1, 2, 3, 4] [6, 7, 8] rfl rfl (by decide) (by decide) (fun rt u8 H locs hrt hP hD hS => ?_)
                    obtain ⟨m8, rfl⟩ : ∃ z, z = u8 := ⟨_, rfl⟩
                    try dsimp only at hrt
                    have hP : va_P D vwCl [(tb, .inr (2, [.ref tc, .int (nI L)])), (tc, .inl (g.1, 200, .inl fc)), (nb, .inl (g.2.1, 3, .inl fn9)), (rd, .inr (4, [.ref tb, .ref a, .ref nb, .int k9, .int (nI q9), .int es, .int rs])), (a, .inr (1, [.ref t, .ref f1, .ref f2, .ref on, .int (nI n), .int (nI N), .int (nI o), .long m8, .int (nI cd), .int (nI wt)])), (t, .inl (g.2.1, 30, .inl ft)), (f1, .inl (g.2.1, 30, .inl fa)), (f2, .inl (g.2.1, 30, .inl fb)), (on, .inl (g.2.1, 6, .inl fo))] H := hP
                    have hD : va_D A [(tb, .inr (2, [.ref tc, .int (nI L)])), (tc, .inl (g.1, 200, .inl fc)), (nb, .inl (g.2.1, 3, .inl fn9)), (rd, .inr (4, [.ref tb, .ref a, .ref nb, .int k9, .int (nI q9), .int es, .int rs])), (a, .inr (1, [.ref t, .ref f1, .ref f2, .ref on, .int (nI n), .int (nI N), .int (nI o), .long m8, .int (nI cd), .int (nI wt)])), (t, .inl (g.2.1, 30, .inl ft)), (f1, .inl (g.2.1, 30, .inl fa)), (f2, .inl (g.2.1, 30, .inl fb)), (on, .inl (g.2.1, 6, .inl fo))] := hD
                    have hP9 := hP.sub (ws' := [(rd, .inr (4, [.ref tb, .ref a, .ref nb, .int k9, .int (nI q9), .int es, .int rs])), (tb, .inr (2, [.ref tc, .int (nI L)])), (tc, .inl (g.1, 200, .inl fc)), (nb, .inl (g.2.1, 3, .inl fn9)), (a, .inr (1, [.ref t, .ref f1, .ref f2, .ref on, .int (nI n), .int (nI N), .int (nI o), .long m8, .int (nI cd), .int (nI wt)])), (t, .inl (g.2.1, 30, .inl ft)), (f1, .inl (g.2.1, 30, .inl fa)), (f2, .inl (g.2.1, 30, .inl fb)), (on, .inl (g.2.1, 6, .inl fo))]) [3, 0, 1, 2, 4, 5, 6, 7, 8] rfl
                    have hD9 := hD.sub (ws' := [(rd, .inr (4, [.ref tb, .ref a, .ref nb, .int k9, .int (nI q9), .int es, .int rs])), (tb, .inr (2, [.ref tc, .int (nI L)])), (tc, .inl (g.1, 200, .inl fc)), (nb, .inl (g.2.1, 3, .inl fn9)), (a, .inr (1, [.ref t, .ref f1, .ref f2, .ref on, .int (nI n), .int (nI N), .int (nI o), .long m8, .int (nI cd), .int (nI wt)])), (t, .inl (g.2.1, 30, .inl ft)), (f1, .inl (g.2.1, 30, .inl fa)), (f2, .inl (g.2.1, 30, .inl fb)), (on, .inl (g.2.1, 6, .inl fo))]) [3, 0, 1, 2, 4, 5, 6, 7, 8] (by decide) rfl
                    exact W.iret (v := rt) hx hb hr (fun tt ht hW => ⟨⟨_, (k9, q9, fn9, n, N, o, m8, ft, fa, fb, fo), rfl, pS_w (mb_y1 c_1 hp c_23) (ca_n (k := 103) c_29) (n1_y hrn c_26).1 (n1_y hrn c_26).2.2.2.1 (ca_n (k := 105) c_28) (ca_n (k := 111) c_30) hrt, by rw [ht]; exact hP9, hD9⟩, hS.F ht⟩) hS.2.2 dX4_readStatement_164
                  · have c_30h : nI (ca tx L pz) = (111 : Int32) := c_30
                    refine lv_aload_n hx hb dX4_readStatement_141 rfl (lv_at hl 4 rfl) ?_
                    refine lv_aload_n hx hb dX4_readStatement_142 rfl (lv_at hl 4 rfl) ?_
                    refine va_get (D := D) (ci := 4) (v := .ref nb) (C := RX4) (T := TX4) (N := 7) hx hb hts hi4 hown hK hP 5 rfl rfl 2 (by decide) (hts (.fieldLink RX4 18 "SelfCheckingCircuit$TextReader" "numbers" "[I") (by decide +kernel)) (fun _ h9 => h9) rfl dX4_readStatement_143 ?_
                    refine lv_iconst (v := 0) hx hb dX4_readStatement_146 (by decide) ?_
                    refine va_iald hx hb hK hP 8 1 rfl rfl (by unfold vp_in; decide) dX4_readStatement_147 ?_
                    refine hk_ti (fn9 0) (congrArg fn9 (by decide)) ?_
                    refine hk_ti (nI (cV tx L (pz + 1))) ((n1_y hrn c_26).2.2.2.2) ?_
                    refine hk_cmi (wr := [(tb, .inr (2, [.ref tc, .int (nI L)])), (tc, .inl (g.1, 200, .inl fc)), (nb, .inl (g.2.1, 3, .inl fn9))]) (va_runV (As := [.int (nI (cV tx L (pz + 1)))]) (rest := []) ⟨hx, hb, hml, hown, hts⟩ (c4_takeOutput l D g ti _ rd tb (.ref nb) k9 q9 es rs a t f1 f2 on ft fa fb fo n N o nm cd wt ty pa pb vo (cV tx L (pz + 1)) hV (cV_lt hX _)) (cwV 1 hts gX4_readStatement_X4_takeOutput rfl rfl rfl (by decide +kernel) ⟨Nat.le_of_ble_eq_true rfl, Nat.le_of_ble_eq_true rfl⟩) (hk_inV hE hP hD hS hA 4 rfl rfl [5, 0, 1, 2, 3, 4] (by decide) rfl rfl) rfl rfl hl.1 rfl (lv_room (Nat.le_of_ble_eq_true rfl)) dX4_readStatement_148 ⟨Nat.zero_le _, Nat.zero_le _⟩) hP hD hS hA [5, 0, 1, 2, 3, 4] [6, 7, 8] rfl rfl (by decide) (by decide) (fun rt u8 H locs hrt hP hD hS => ?_)
                    obtain ⟨o8, f8⟩ := u8
                    try dsimp only at hrt
                    have hP : va_P D vwCl [(tb, .inr (2, [.ref tc, .int (nI L)])), (tc, .inl (g.1, 200, .inl fc)), (nb, .inl (g.2.1, 3, .inl fn9)), (rd, .inr (4, [.ref tb, .ref a, .ref nb, .int k9, .int (nI q9), .int es, .int rs])), (a, .inr (1, [.ref t, .ref f1, .ref f2, .ref on, .int (nI n), .int (nI N), .int (nI o8), .long nm, .int (nI cd), .int (nI wt)])), (t, .inl (g.2.1, 30, .inl ft)), (f1, .inl (g.2.1, 30, .inl fa)), (f2, .inl (g.2.1, 30, .inl fb)), (on, .inl (g.2.1, 6, .inl f8))] H := hP
                    have hD : va_D A [(tb, .inr (2, [.ref tc, .int (nI L)])), (tc, .inl (g.1, 200, .inl fc)), (nb, .inl (g.2.1, 3, .inl fn9)), (rd, .inr (4, [.ref tb, .ref a, .ref nb, .int k9, .int (nI q9), .int es, .int rs])), (a, .inr (1, [.ref t, .ref f1, .ref f2, .ref on, .int (nI n), .int (nI N), .int (nI o8), .long nm, .int (nI cd), .int (nI wt)])), (t, .inl (g.2.1, 30, .inl ft)), (f1, .inl (g.2.1, 30, .inl fa)), (f2, .inl (g.2.1, 30, .inl fb)), (on, .inl (g.2.1, 6, .inl f8))] := hD
                    refine lv_goto (tgt := 164) hx hb dX4_readStatement_151 (by decide) ?_
                    have hP9 := hP.sub (ws' := [(rd, .inr (4, [.ref tb, .ref a, .ref nb, .int k9, .int (nI q9), .int es, .int rs])), (tb, .inr (2, [.ref tc, .int (nI L)])), (tc, .inl (g.1, 200, .inl fc)), (nb, .inl (g.2.1, 3, .inl fn9)), (a, .inr (1, [.ref t, .ref f1, .ref f2, .ref on, .int (nI n), .int (nI N), .int (nI o8), .long nm, .int (nI cd), .int (nI wt)])), (t, .inl (g.2.1, 30, .inl ft)), (f1, .inl (g.2.1, 30, .inl fa)), (f2, .inl (g.2.1, 30, .inl fb)), (on, .inl (g.2.1, 6, .inl f8))]) [3, 0, 1, 2, 4, 5, 6, 7, 8] rfl
                    have hD9 := hD.sub (ws' := [(rd, .inr (4, [.ref tb, .ref a, .ref nb, .int k9, .int (nI q9), .int es, .int rs])), (tb, .inr (2, [.ref tc, .int (nI L)])), (tc, .inl (g.1, 200, .inl fc)), (nb, .inl (g.2.1, 3, .inl fn9)), (a, .inr (1, [.ref t, .ref f1, .ref f2, .ref on, .int (nI n), .int (nI N), .int (nI o8), .long nm, .int (nI cd), .int (nI wt)])), (t, .inl (g.2.1, 30, .inl ft)), (f1, .inl (g.2.1, 30, .inl fa)), (f2, .inl (g.2.1, 30, .inl fb)), (on, .inl (g.2.1, 6, .inl f8))]) [3, 0, 1, 2, 4, 5, 6, 7, 8] (by decide) rfl
                    exact W.iret (v := rt) hx hb hr (fun tt ht hW => ⟨⟨_, (k9, q9, fn9, n, N, o8, nm, ft, fa, fb, f8), rfl, pS_o (mb_y1 c_1 hp c_23) (ca_n (k := 103) c_29) (n1_y hrn c_26).1 (n1_y hrn c_26).2.2.2.1 (ca_n (k := 105) c_28) (ca_e hX (k := 111) c_30) hrt, by rw [ht]; exact hP9, hD9⟩, hS.F ht⟩) hS.2.2 dX4_readStatement_164
                · have c_29h : nI (ca tx L pz) = (103 : Int32) := c_29
                  exact absurd c_29 c_25
              · have c_28h : nI (ca tx L pz) = (105 : Int32) := c_28
                refine lv_aload_n hx hb dX4_readStatement_95 rfl (lv_at hl 4 rfl) ?_
                refine lv_aload_n hx hb dX4_readStatement_96 rfl (lv_at hl 4 rfl) ?_
                refine va_get (D := D) (ci := 4) (v := .ref nb) (C := RX4) (T := TX4) (N := 7) hx hb hts hi4 hown hK hP 5 rfl rfl 2 (by decide) (hts (.fieldLink RX4 18 "SelfCheckingCircuit$TextReader" "numbers" "[I") (by decide +kernel)) (fun _ h9 => h9) rfl dX4_readStatement_97 ?_
                refine lv_iconst (v := 0) hx hb dX4_readStatement_100 (by decide) ?_
                refine va_iald hx hb hK hP 8 1 rfl rfl (by unfold vp_in; decide) dX4_readStatement_101 ?_
                refine hk_ti (fn9 0) (congrArg fn9 (by decide)) ?_
                refine hk_ti (nI (cV tx L (pz + 1))) ((n1_y hrn c_26).2.2.2.2) ?_
                refine hk_cmi (wr := [(tb, .inr (2, [.ref tc, .int (nI L)])), (tc, .inl (g.1, 200, .inl fc)), (nb, .inl (g.2.1, 3, .inl fn9))]) (va_runV (As := [.int (nI (cV tx L (pz + 1)))]) (rest := []) ⟨hx, hb, hml, hown, hts⟩ (c4_takeInputs l D g ti _ rd tb (.ref nb) k9 q9 es rs a t f1 f2 on ft fa fb fo n N o nm cd wt ty pa pb vo (cV tx L (pz + 1)) hV (cV_lt hX _)) (cwV 1 hts gX4_readStatement_X4_takeInputs rfl rfl rfl (by decide +kernel) ⟨Nat.le_of_ble_eq_true rfl, Nat.le_of_ble_eq_true rfl⟩) (hk_inV hE hP hD hS hA 4 rfl rfl [5, 0, 1, 2, 3, 4] (by decide) rfl rfl) rfl rfl hl.1 rfl (lv_room (Nat.le_of_ble_eq_true rfl)) dX4_readStatement_102 ⟨Nat.zero_le _, Nat.zero_le _⟩) hP hD hS hA [5, 0, 1, 2, 3, 4] [6, 7, 8] rfl rfl (by decide) (by decide) (fun rt u8 H locs hrt hP hD hS => ?_)
                obtain ⟨n8, N8, o8, m8, f8⟩ := u8
                try dsimp only at hrt
                have hP : va_P D vwCl [(tb, .inr (2, [.ref tc, .int (nI L)])), (tc, .inl (g.1, 200, .inl fc)), (nb, .inl (g.2.1, 3, .inl fn9)), (rd, .inr (4, [.ref tb, .ref a, .ref nb, .int k9, .int (nI q9), .int es, .int rs])), (a, .inr (1, [.ref t, .ref f1, .ref f2, .ref on, .int (nI n8), .int (nI N8), .int (nI o8), .long m8, .int (nI cd), .int (nI wt)])), (t, .inl (g.2.1, 30, .inl f8)), (f1, .inl (g.2.1, 30, .inl fa)), (f2, .inl (g.2.1, 30, .inl fb)), (on, .inl (g.2.1, 6, .inl fo))] H := hP
                have hD : va_D A [(tb, .inr (2, [.ref tc, .int (nI L)])), (tc, .inl (g.1, 200, .inl fc)), (nb, .inl (g.2.1, 3, .inl fn9)), (rd, .inr (4, [.ref tb, .ref a, .ref nb, .int k9, .int (nI q9), .int es, .int rs])), (a, .inr (1, [.ref t, .ref f1, .ref f2, .ref on, .int (nI n8), .int (nI N8), .int (nI o8), .long m8, .int (nI cd), .int (nI wt)])), (t, .inl (g.2.1, 30, .inl f8)), (f1, .inl (g.2.1, 30, .inl fa)), (f2, .inl (g.2.1, 30, .inl fb)), (on, .inl (g.2.1, 6, .inl fo))] := hD
                have hP9 := hP.sub (ws' := [(rd, .inr (4, [.ref tb, .ref a, .ref nb, .int k9, .int (nI q9), .int es, .int rs])), (tb, .inr (2, [.ref tc, .int (nI L)])), (tc, .inl (g.1, 200, .inl fc)), (nb, .inl (g.2.1, 3, .inl fn9)), (a, .inr (1, [.ref t, .ref f1, .ref f2, .ref on, .int (nI n8), .int (nI N8), .int (nI o8), .long m8, .int (nI cd), .int (nI wt)])), (t, .inl (g.2.1, 30, .inl f8)), (f1, .inl (g.2.1, 30, .inl fa)), (f2, .inl (g.2.1, 30, .inl fb)), (on, .inl (g.2.1, 6, .inl fo))]) [3, 0, 1, 2, 4, 5, 6, 7, 8] rfl
                have hD9 := hD.sub (ws' := [(rd, .inr (4, [.ref tb, .ref a, .ref nb, .int k9, .int (nI q9), .int es, .int rs])), (tb, .inr (2, [.ref tc, .int (nI L)])), (tc, .inl (g.1, 200, .inl fc)), (nb, .inl (g.2.1, 3, .inl fn9)), (a, .inr (1, [.ref t, .ref f1, .ref f2, .ref on, .int (nI n8), .int (nI N8), .int (nI o8), .long m8, .int (nI cd), .int (nI wt)])), (t, .inl (g.2.1, 30, .inl f8)), (f1, .inl (g.2.1, 30, .inl fa)), (f2, .inl (g.2.1, 30, .inl fb)), (on, .inl (g.2.1, 6, .inl fo))]) [3, 0, 1, 2, 4, 5, 6, 7, 8] (by decide) rfl
                exact W.iret (v := rt) hx hb hr (fun tt ht hW => ⟨⟨_, (k9, q9, fn9, n8, N8, o8, m8, f8, fa, fb, fo), rfl, pS_i (mb_y1 c_1 hp c_23) (ca_n (k := 103) c_25) (n1_y hrn c_26).1 (n1_y hrn c_26).2.2.2.1 (ca_e hX (k := 105) c_28) hrt, by rw [ht]; exact hP9, hD9⟩, hS.F ht⟩) hS.2.2 dX4_readStatement_105
            · have c_27h : ¬ (1 : Int32) ≤ k9 := c_27
              refine lv_iconst (v := 2) hx hb dX4_readStatement_87 (by decide) ?_
              have hP9 := hP.sub (ws' := [(rd, .inr (4, [.ref tb, .ref a, .ref nb, .int k9, .int (nI q9), .int es, .int rs])), (tb, .inr (2, [.ref tc, .int (nI L)])), (tc, .inl (g.1, 200, .inl fc)), (nb, .inl (g.2.1, 3, .inl fn9)), (a, .inr (1, [.ref t, .ref f1, .ref f2, .ref on, .int (nI n), .int (nI N), .int (nI o), .long nm, .int (nI cd), .int (nI wt)])), (t, .inl (g.2.1, 30, .inl ft)), (f1, .inl (g.2.1, 30, .inl fa)), (f2, .inl (g.2.1, 30, .inl fb)), (on, .inl (g.2.1, 6, .inl fo))]) [5, 6, 7, 8, 0, 1, 2, 3, 4] rfl
              have hD9 := hD.sub (ws' := [(rd, .inr (4, [.ref tb, .ref a, .ref nb, .int k9, .int (nI q9), .int es, .int rs])), (tb, .inr (2, [.ref tc, .int (nI L)])), (tc, .inl (g.1, 200, .inl fc)), (nb, .inl (g.2.1, 3, .inl fn9)), (a, .inr (1, [.ref t, .ref f1, .ref f2, .ref on, .int (nI n), .int (nI N), .int (nI o), .long nm, .int (nI cd), .int (nI wt)])), (t, .inl (g.2.1, 30, .inl ft)), (f1, .inl (g.2.1, 30, .inl fa)), (f2, .inl (g.2.1, 30, .inl fb)), (on, .inl (g.2.1, 6, .inl fo))]) [5, 6, 7, 8, 0, 1, 2, 3, 4] (by decide) rfl
              exact W.iret (v := 2) hx hb hr (fun tt ht hW => ⟨⟨_, (k9, q9, fn9, n, N, o, nm, ft, fa, fb, fo), rfl, pS_s2 hV (mb_y1 c_1 hp c_23) (ca_n (k := 103) c_25) (n1_k hrn c_27), by rw [ht]; exact hP9, hD9⟩, hS.F ht⟩) hS.2.2 dX4_readStatement_88
        · have c_25h : nI (ca tx L pz) = (103 : Int32) := c_25
          exact absurd c_25 c_24
      · have c_24h : nI (ca tx L pz) = (103 : Int32) := c_24
        refine lv_iconst (v := 2) hx hb dX4_readStatement_51 (by decide) ?_
        refine lv_goto (tgt := 56) hx hb dX4_readStatement_52 (by decide) ?_
        refine lv_istore_n (lv' := [(3, .int 2), (2, .int (nI (ca tx L pz))), (1, .int 1), (0, .ref rd)]) hx hb dX4_readStatement_56 rfl hl (by decide) rfl (fun ls hl => ?_)
        refine lv_iload_n hx hb dX4_readStatement_57 rfl (lv_at hl 1 rfl) ?_
        refine lv_bipush (v := 103) hx hb dX4_readStatement_58 (by decide) ?_
        refine lv_icmp_ne (tgt := 67) hx hb dX4_readStatement_60 (by decide) (fun c_31 => ?_) (fun c_31 => ?_)
        · have c_31h : ¬ nI (ca tx L pz) = (103 : Int32) := c_31
          exact absurd c_24 c_31
        · have c_31h : nI (ca tx L pz) = (103 : Int32) := c_31
          refine lv_iconst (v := 3) hx hb dX4_readStatement_63 (by decide) ?_
          refine lv_goto (tgt := 68) hx hb dX4_readStatement_64 (by decide) ?_
          refine lv_istore (lv' := [(4, .int 3), (3, .int 2), (2, .int (nI (ca tx L pz))), (1, .int 1), (0, .ref rd)]) hx hb dX4_readStatement_68 hl (by decide) rfl (fun ls hl => ?_)
          refine lv_aload_n hx hb dX4_readStatement_70 rfl (lv_at hl 4 rfl) ?_
          refine lv_iload hx hb dX4_readStatement_71 (lv_at hl 0 rfl) ?_
          refine hk_cmi (wr := [(a, .inr (1, [.ref t, .ref f1, .ref f2, .ref on, .int (nI n), .int (nI N), .int (nI o), .long nm, .int (nI cd), .int (nI wt)])), (t, .inl (g.2.1, 30, .inl ft)), (f1, .inl (g.2.1, 30, .inl fa)), (f2, .inl (g.2.1, 30, .inl fb)), (on, .inl (g.2.1, 6, .inl fo))]) (va_runV (As := [.int 3]) (rest := []) ⟨hx, hb, hml, hown, hts⟩ (c4_readNumbers_3 l D g ti _ rd tb tc fc tx L (pz + 1) (.ref a) nb fn kc es rs hX hcn (by omega)) (cwV 1 hts gX4_readStatement_X4_readNumbers rfl rfl rfl (by decide +kernel) ⟨Nat.le_of_ble_eq_true rfl, Nat.le_of_ble_eq_true rfl⟩) (hk_inV hE hP hD hS hA 4 rfl rfl [0, 1, 2, 3] (by decide) rfl rfl) rfl rfl hl.1 rfl (lv_room (Nat.le_of_ble_eq_true rfl)) dX4_readStatement_73 ⟨Nat.zero_le _, Nat.zero_le _⟩) hP hD hS hA [0, 1, 2, 3] [4, 5, 6, 7, 8] rfl rfl (by decide) (by decide) (fun rn u9 H locs hrn hP hD hS => ?_)
          obtain ⟨k9, q9, fn9⟩ := u9
          try dsimp only at hrn
          have hP : va_P D vwCl [(a, .inr (1, [.ref t, .ref f1, .ref f2, .ref on, .int (nI n), .int (nI N), .int (nI o), .long nm, .int (nI cd), .int (nI wt)])), (t, .inl (g.2.1, 30, .inl ft)), (f1, .inl (g.2.1, 30, .inl fa)), (f2, .inl (g.2.1, 30, .inl fb)), (on, .inl (g.2.1, 6, .inl fo)), (rd, .inr (4, [.ref tb, .ref a, .ref nb, .int k9, .int (nI q9), .int es, .int rs])), (tb, .inr (2, [.ref tc, .int (nI L)])), (tc, .inl (g.1, 200, .inl fc)), (nb, .inl (g.2.1, 3, .inl fn9))] H := hP
          have hD : va_D A [(a, .inr (1, [.ref t, .ref f1, .ref f2, .ref on, .int (nI n), .int (nI N), .int (nI o), .long nm, .int (nI cd), .int (nI wt)])), (t, .inl (g.2.1, 30, .inl ft)), (f1, .inl (g.2.1, 30, .inl fa)), (f2, .inl (g.2.1, 30, .inl fb)), (on, .inl (g.2.1, 6, .inl fo)), (rd, .inr (4, [.ref tb, .ref a, .ref nb, .int k9, .int (nI q9), .int es, .int rs])), (tb, .inr (2, [.ref tc, .int (nI L)])), (tc, .inl (g.1, 200, .inl fc)), (nb, .inl (g.2.1, 3, .inl fn9))] := hD
          refine lv_if_eq (tgt := 87) hx hb dX4_readStatement_76 (by decide) (fun c_32 => ?_) (fun c_32 => ?_)
          · have c_32h : rn = (0 : Int32) := c_32
            refine lv_iconst (v := 2) hx hb dX4_readStatement_87 (by decide) ?_
            have hP9 := hP.sub (ws' := [(rd, .inr (4, [.ref tb, .ref a, .ref nb, .int k9, .int (nI q9), .int es, .int rs])), (tb, .inr (2, [.ref tc, .int (nI L)])), (tc, .inl (g.1, 200, .inl fc)), (nb, .inl (g.2.1, 3, .inl fn9)), (a, .inr (1, [.ref t, .ref f1, .ref f2, .ref on, .int (nI n), .int (nI N), .int (nI o), .long nm, .int (nI cd), .int (nI wt)])), (t, .inl (g.2.1, 30, .inl ft)), (f1, .inl (g.2.1, 30, .inl fa)), (f2, .inl (g.2.1, 30, .inl fb)), (on, .inl (g.2.1, 6, .inl fo))]) [5, 6, 7, 8, 0, 1, 2, 3, 4] rfl
            have hD9 := hD.sub (ws' := [(rd, .inr (4, [.ref tb, .ref a, .ref nb, .int k9, .int (nI q9), .int es, .int rs])), (tb, .inr (2, [.ref tc, .int (nI L)])), (tc, .inl (g.1, 200, .inl fc)), (nb, .inl (g.2.1, 3, .inl fn9)), (a, .inr (1, [.ref t, .ref f1, .ref f2, .ref on, .int (nI n), .int (nI N), .int (nI o), .long nm, .int (nI cd), .int (nI wt)])), (t, .inl (g.2.1, 30, .inl ft)), (f1, .inl (g.2.1, 30, .inl fa)), (f2, .inl (g.2.1, 30, .inl fb)), (on, .inl (g.2.1, 6, .inl fo))]) [5, 6, 7, 8, 0, 1, 2, 3, 4] (by decide) rfl
            exact W.iret (v := 2) hx hb hr (fun tt ht hW => ⟨⟨_, (k9, q9, fn9, n, N, o, nm, ft, fa, fb, fo), rfl, pS_g2 hV (mb_y1 c_1 hp c_23) (ca_e hX (k := 103) c_31) (n3_n hrn c_32), by rw [ht]; exact hP9, hD9⟩, hS.F ht⟩) hS.2.2 dX4_readStatement_88
          · have c_32h : ¬ rn = (0 : Int32) := c_32
            refine lv_aload_n hx hb dX4_readStatement_79 rfl (lv_at hl 4 rfl) ?_
            refine va_get (D := D) (ci := 4) (v := .int k9) (C := RX4) (T := TX4) (N := 7) hx hb hts hi4 hown hK hP 5 rfl rfl 3 (by decide) (hts (.fieldLink RX4 65 "SelfCheckingCircuit$TextReader" "count" "I") (by decide +kernel)) (fun _ h9 => h9) rfl dX4_readStatement_80 ?_
            refine lv_iload_n hx hb dX4_readStatement_83 rfl (lv_at hl 1 rfl) ?_
            refine lv_icmp_ge (tgt := 89) hx hb dX4_readStatement_84 (by decide) (fun c_33 => ?_) (fun c_33 => ?_)
            · have c_33h : (2 : Int32) ≤ k9 := c_33
              refine lv_iload_n hx hb dX4_readStatement_89 rfl (lv_at hl 2 rfl) ?_
              refine lv_bipush (v := 105) hx hb dX4_readStatement_90 (by decide) ?_
              refine lv_icmp_ne (tgt := 106) hx hb dX4_readStatement_92 (by decide) (fun c_34 => ?_) (fun c_34 => ?_)
              · have c_34h : ¬ nI (ca tx L pz) = (105 : Int32) := c_34
                refine lv_iload_n hx hb dX4_readStatement_106 rfl (lv_at hl 2 rfl) ?_
                refine lv_bipush (v := 103) hx hb dX4_readStatement_107 (by decide) ?_
                refine lv_icmp_ne (tgt := 135) hx hb dX4_readStatement_109 (by decide) (fun c_35 => ?_) (fun c_35 => ?_)
                · have c_35h : ¬ nI (ca tx L pz) = (103 : Int32) := c_35
                  exact absurd c_31 c_35
                · have c_35h : nI (ca tx L pz) = (103 : Int32) := c_35
                  have hy := n3_y hrn c_32 c_33
                  have hk9 := hy.2.2.1
                  subst hk9
                  have hP : va_P D vwCl [(a, .inr (1, [.ref t, .ref f1, .ref f2, .ref on, .int (nI n), .int (nI N), .int (nI o), .long nm, .int (nI cd), .int (nI wt)])), (t, .inl (g.2.1, 30, .inl ft)), (f1, .inl (g.2.1, 30, .inl fa)), (f2, .inl (g.2.1, 30, .inl fb)), (on, .inl (g.2.1, 6, .inl fo)), (rd, .inr (4, [.ref tb, .ref a, .ref nb, .int (nI (gk tx L (pz + 1))), .int (nI q9), .int es, .int rs])), (tb, .inr (2, [.ref tc, .int (nI L)])), (tc, .inl (g.1, 200, .inl fc)), (nb, .inl (g.2.1, 3, .inl fn9))] H := hP
                  have hD : va_D A [(a, .inr (1, [.ref t, .ref f1, .ref f2, .ref on, .int (nI n), .int (nI N), .int (nI o), .long nm, .int (nI cd), .int (nI wt)])), (t, .inl (g.2.1, 30, .inl ft)), (f1, .inl (g.2.1, 30, .inl fa)), (f2, .inl (g.2.1, 30, .inl fb)), (on, .inl (g.2.1, 6, .inl fo)), (rd, .inr (4, [.ref tb, .ref a, .ref nb, .int (nI (gk tx L (pz + 1))), .int (nI q9), .int es, .int rs])), (tb, .inr (2, [.ref tc, .int (nI L)])), (tc, .inl (g.1, 200, .inl fc)), (nb, .inl (g.2.1, 3, .inl fn9))] := hD
                  refine lv_aload_n hx hb dX4_readStatement_112 rfl (lv_at hl 4 rfl) ?_
                  refine lv_aload_n hx hb dX4_readStatement_113 rfl (lv_at hl 4 rfl) ?_
                  refine va_get (D := D) (ci := 4) (v := .ref nb) (C := RX4) (T := TX4) (N := 7) hx hb hts hi4 hown hK hP 5 rfl rfl 2 (by decide) (hts (.fieldLink RX4 18 "SelfCheckingCircuit$TextReader" "numbers" "[I") (by decide +kernel)) (fun _ h9 => h9) rfl dX4_readStatement_114 ?_
                  refine lv_iconst (v := 0) hx hb dX4_readStatement_117 (by decide) ?_
                  refine va_iald hx hb hK hP 8 1 rfl rfl (by unfold vp_in; decide) dX4_readStatement_118 ?_
                  refine hk_ti (fn9 0) (congrArg fn9 (by decide)) ?_
                  refine hk_ti (nI (cV tx L (pz + 1))) (hy.2.2.2.2.1) ?_
                  refine lv_aload_n hx hb dX4_readStatement_119 rfl (lv_at hl 4 rfl) ?_
                  refine va_get (D := D) (ci := 4) (v := .ref nb) (C := RX4) (T := TX4) (N := 7) hx hb hts hi4 hown hK hP 5 rfl rfl 2 (by decide) (hts (.fieldLink RX4 18 "SelfCheckingCircuit$TextReader" "numbers" "[I") (by decide +kernel)) (fun _ h9 => h9) rfl dX4_readStatement_120 ?_
                  refine lv_iconst (v := 1) hx hb dX4_readStatement_123 (by decide) ?_
                  refine va_iald hx hb hK hP 8 1 rfl rfl (by unfold vp_in; decide) dX4_readStatement_124 ?_
                  refine hk_ti (fn9 1) (congrArg fn9 (by decide)) ?_
                  refine hk_ti (nI (cV tx L (cP tx L (pz + 1) + 1))) (hy.2.2.2.2.2.1) ?_
                  refine lv_aload_n hx hb dX4_readStatement_125 rfl (lv_at hl 4 rfl) ?_
                  refine va_get (D := D) (ci := 4) (v := .ref nb) (C := RX4) (T := TX4) (N := 7) hx hb hts hi4 hown hK hP 5 rfl rfl 2 (by decide) (hts (.fieldLink RX4 18 "SelfCheckingCircuit$TextReader" "numbers" "[I") (by decide +kernel)) (fun _ h9 => h9) rfl dX4_readStatement_126 ?_
                  refine lv_iconst (v := 2) hx hb dX4_readStatement_129 (by decide) ?_
                  refine va_iald hx hb hK hP 8 1 rfl rfl (by unfold vp_in; decide) dX4_readStatement_130 ?_
                  refine hk_ti (fn9 2) (congrArg fn9 (by decide)) ?_
                  refine hk_cmi (wr := [(tb, .inr (2, [.ref tc, .int (nI L)])), (tc, .inl (g.1, 200, .inl fc)), (nb, .inl (g.2.1, 3, .inl fn9))]) (va_runV (As := [.int (nI (cV tx L (pz + 1))), .int (nI (cV tx L (cP tx L (pz + 1) + 1))), .int (fn9 2)]) (rest := []) ⟨hx, hb, hml, hown, hts⟩ (c4_takeGate l D g ti _ rd tb (.ref nb) kc q9 es rs a t f1 f2 on ft fa fb fo n N o nm cd wt ty pa pb vo (cV tx L (pz + 1)) (cV tx L (cP tx L (pz + 1) + 1)) (cV tx L (cP tx L (cP tx L (pz + 1) + 1) + 1)) (fn9 2) (gk tx L (pz + 1)) hV gk_2 (cV_lt hX _) (cV_lt hX _) (fun q => ⟨hy.2.2.2.2.2.2 (gb_3 q), cV_lt hX _⟩)) (cwV 3 hts gX4_readStatement_X4_takeGate rfl rfl rfl (by decide +kernel) ⟨Nat.le_of_ble_eq_true rfl, Nat.le_of_ble_eq_true rfl⟩) (hk_inV hE hP hD hS hA 4 rfl rfl [5, 0, 1, 2, 3, 4] (by decide) rfl rfl) rfl rfl hl.1 rfl (lv_room (Nat.le_of_ble_eq_true rfl)) dX4_readStatement_131 ⟨Nat.zero_le _, Nat.zero_le _⟩) hP hD hS hA [5, 0, 1, 2, 3, 4] [6, 7, 8] rfl rfl (by decide) (by decide) (fun rt u8 H locs hrt hP hD hS => ?_)
                  obtain ⟨N8, f8, f81, f82⟩ := u8
                  try dsimp only at hrt
                  have hP : va_P D vwCl [(tb, .inr (2, [.ref tc, .int (nI L)])), (tc, .inl (g.1, 200, .inl fc)), (nb, .inl (g.2.1, 3, .inl fn9)), (rd, .inr (4, [.ref tb, .ref a, .ref nb, .int (nI (gk tx L (pz + 1))), .int (nI q9), .int es, .int rs])), (a, .inr (1, [.ref t, .ref f1, .ref f2, .ref on, .int (nI n), .int (nI N8), .int (nI o), .long nm, .int (nI cd), .int (nI wt)])), (t, .inl (g.2.1, 30, .inl f8)), (f1, .inl (g.2.1, 30, .inl f81)), (f2, .inl (g.2.1, 30, .inl f82)), (on, .inl (g.2.1, 6, .inl fo))] H := hP
                  have hD : va_D A [(tb, .inr (2, [.ref tc, .int (nI L)])), (tc, .inl (g.1, 200, .inl fc)), (nb, .inl (g.2.1, 3, .inl fn9)), (rd, .inr (4, [.ref tb, .ref a, .ref nb, .int (nI (gk tx L (pz + 1))), .int (nI q9), .int es, .int rs])), (a, .inr (1, [.ref t, .ref f1, .ref f2, .ref on, .int (nI n), .int (nI N8), .int (nI o), .long nm, .int (nI cd), .int (nI wt)])), (t, .inl (g.2.1, 30, .inl f8)), (f1, .inl (g.2.1, 30, .inl f81)), (f2, .inl (g.2.1, 30, .inl f82)), (on, .inl (g.2.1, 6, .inl fo))] := hD
                  have hP9 := hP.sub (ws' := [(rd, .inr (4, [.ref tb, .ref a, .ref nb, .int (nI (gk tx L (pz + 1))), .int (nI q9), .int es, .int rs])), (tb, .inr (2, [.ref tc, .int (nI L)])), (tc, .inl (g.1, 200, .inl fc)), (nb, .inl (g.2.1, 3, .inl fn9)), (a, .inr (1, [.ref t, .ref f1, .ref f2, .ref on, .int (nI n), .int (nI N8), .int (nI o), .long nm, .int (nI cd), .int (nI wt)])), (t, .inl (g.2.1, 30, .inl f8)), (f1, .inl (g.2.1, 30, .inl f81)), (f2, .inl (g.2.1, 30, .inl f82)), (on, .inl (g.2.1, 6, .inl fo))]) [3, 0, 1, 2, 4, 5, 6, 7, 8] rfl
                  have hD9 := hD.sub (ws' := [(rd, .inr (4, [.ref tb, .ref a, .ref nb, .int (nI (gk tx L (pz + 1))), .int (nI q9), .int es, .int rs])), (tb, .inr (2, [.ref tc, .int (nI L)])), (tc, .inl (g.1, 200, .inl fc)), (nb, .inl (g.2.1, 3, .inl fn9)), (a, .inr (1, [.ref t, .ref f1, .ref f2, .ref on, .int (nI n), .int (nI N8), .int (nI o), .long nm, .int (nI cd), .int (nI wt)])), (t, .inl (g.2.1, 30, .inl f8)), (f1, .inl (g.2.1, 30, .inl f81)), (f2, .inl (g.2.1, 30, .inl f82)), (on, .inl (g.2.1, 6, .inl fo))]) [3, 0, 1, 2, 4, 5, 6, 7, 8] (by decide) rfl
                  exact W.iret (v := rt) hx hb hr (fun tt ht hW => ⟨⟨_, ((nI (gk tx L (pz + 1))), q9, fn9, n, N8, o, nm, f8, f81, f82, fo), rfl, pS_g (mb_y1 c_1 hp c_23) (ca_e hX (k := 103) c_35) hy.1 hy.2.2.2.1 hrt, by rw [ht]; exact hP9, hD9⟩, hS.F ht⟩) hS.2.2 dX4_readStatement_134
              · have c_34h : nI (ca tx L pz) = (105 : Int32) := c_34
                exact absurd (c_31.symm.trans c_34) (by decide)
            · have c_33h : ¬ (2 : Int32) ≤ k9 := c_33
              refine lv_iconst (v := 2) hx hb dX4_readStatement_87 (by decide) ?_
              have hP9 := hP.sub (ws' := [(rd, .inr (4, [.ref tb, .ref a, .ref nb, .int k9, .int (nI q9), .int es, .int rs])), (tb, .inr (2, [.ref tc, .int (nI L)])), (tc, .inl (g.1, 200, .inl fc)), (nb, .inl (g.2.1, 3, .inl fn9)), (a, .inr (1, [.ref t, .ref f1, .ref f2, .ref on, .int (nI n), .int (nI N), .int (nI o), .long nm, .int (nI cd), .int (nI wt)])), (t, .inl (g.2.1, 30, .inl ft)), (f1, .inl (g.2.1, 30, .inl fa)), (f2, .inl (g.2.1, 30, .inl fb)), (on, .inl (g.2.1, 6, .inl fo))]) [5, 6, 7, 8, 0, 1, 2, 3, 4] rfl
              have hD9 := hD.sub (ws' := [(rd, .inr (4, [.ref tb, .ref a, .ref nb, .int k9, .int (nI q9), .int es, .int rs])), (tb, .inr (2, [.ref tc, .int (nI L)])), (tc, .inl (g.1, 200, .inl fc)), (nb, .inl (g.2.1, 3, .inl fn9)), (a, .inr (1, [.ref t, .ref f1, .ref f2, .ref on, .int (nI n), .int (nI N), .int (nI o), .long nm, .int (nI cd), .int (nI wt)])), (t, .inl (g.2.1, 30, .inl ft)), (f1, .inl (g.2.1, 30, .inl fa)), (f2, .inl (g.2.1, 30, .inl fb)), (on, .inl (g.2.1, 6, .inl fo))]) [5, 6, 7, 8, 0, 1, 2, 3, 4] (by decide) rfl
              exact W.iret (v := 2) hx hb hr (fun tt ht hW => ⟨⟨_, (k9, q9, fn9, n, N, o, nm, ft, fa, fb, fo), rfl, pS_g2 hV (mb_y1 c_1 hp c_23) (ca_e hX (k := 103) c_31) (n3_k hrn c_33), by rw [ht]; exact hP9, hD9⟩, hS.F ht⟩) hS.2.2 dX4_readStatement_88
    · have c_23h : bI (decide (ca tx L pz = 105)) = (0 : Int32) := c_23
      refine lv_iconst (v := 1) hx hb dX4_readStatement_43 (by decide) ?_
      have hP9 := hP.sub (ws' := [(rd, .inr (4, [.ref tb, .ref a, .ref nb, .int kc, .int (nI (pz + 1)), .int es, .int rs])), (tb, .inr (2, [.ref tc, .int (nI L)])), (tc, .inl (g.1, 200, .inl fc)), (nb, .inl (g.2.1, 3, .inl fn)), (a, .inr (1, [.ref t, .ref f1, .ref f2, .ref on, .int (nI n), .int (nI N), .int (nI o), .long nm, .int (nI cd), .int (nI wt)])), (t, .inl (g.2.1, 30, .inl ft)), (f1, .inl (g.2.1, 30, .inl fa)), (f2, .inl (g.2.1, 30, .inl fb)), (on, .inl (g.2.1, 6, .inl fo))]) [0, 1, 2, 3, 4, 5, 6, 7, 8] rfl
      have hD9 := hD.sub (ws' := [(rd, .inr (4, [.ref tb, .ref a, .ref nb, .int kc, .int (nI (pz + 1)), .int es, .int rs])), (tb, .inr (2, [.ref tc, .int (nI L)])), (tc, .inl (g.1, 200, .inl fc)), (nb, .inl (g.2.1, 3, .inl fn)), (a, .inr (1, [.ref t, .ref f1, .ref f2, .ref on, .int (nI n), .int (nI N), .int (nI o), .long nm, .int (nI cd), .int (nI wt)])), (t, .inl (g.2.1, 30, .inl ft)), (f1, .inl (g.2.1, 30, .inl fa)), (f2, .inl (g.2.1, 30, .inl fb)), (on, .inl (g.2.1, 6, .inl fo))]) [0, 1, 2, 3, 4, 5, 6, 7, 8] (by decide) rfl
      exact W.iret (v := 1) hx hb hr (fun tt ht hW => ⟨⟨_, (kc, (pz + 1), fn, n, N, o, nm, ft, fa, fb, fo), rfl, pS_1 hV (mb_n1 c_1 hp c_23), by rw [ht]; exact hP9, hD9⟩, hS.F ht⟩) hS.2.2 dX4_readStatement_44
