theorem hn_v {N v : Nat} (hv : v < 2 ^ 31) (hN : N < 2 ^ 31) : hn N (nI v) = decide (v < N) := by
  by_cases h : v < N
  · rw [hn_t h hN, decide_eq_true h]
  · rw [hn_f (Or.inr (nI_le (by omega) hv)), decide_eq_false h]
theorem bd_t {p : Prop} [Decidable p] (h : ¬ bI (decide p) = 0) : p := of_decide_eq_true (bI_n0 h)
theorem bd_f {p : Prop} [Decidable p] (h : bI (decide p) = 0) : ¬ p := of_decide_eq_false (bI_0.mp h)
theorem tI_y {V : VT} {v : Nat} {ft fa fb fo : Nat → Int32} (h1 : 1 ≤ v) (h6 : v ≤ 6) (hf : ∀ j, j < v → ft j = 6) : tP (tI v V) 0 v v 0 0 ft fa fb fo := by
  unfold tI; rw [if_pos ⟨h1, h6⟩]; exact ⟨rfl, zf, zf, zf, zf, rfl, CR_I h6 hf⟩
theorem tI_n {n N o : Nat} {ty pa pb vo : Nat → Nat} {nm : Int64} {ft fa fb fo : Nat → Int32} {v : Nat} (h : CR n N o ty pa pb vo nm ft fa fb fo) (hv : ¬ (1 ≤ v ∧ v ≤ 6)) : tP (tI v (n, N, o, ty, pa, pb, vo, nm)) 3 n N o nm ft fa fb fo := by
  unfold tI; rw [if_neg hv]; exact ⟨rfl, ty, pa, pb, vo, rfl, h⟩
theorem tO_y {n N o : Nat} {ty pa pb vo : Nat → Nat} {nm : Int64} {ft fa fb fo : Nat → Int32} {v : Nat} (h : CR n N o ty pa pb vo nm ft fa fb fo) (hv : v < N) (ho : o < 6) : tP (tO v (n, N, o, ty, pa, pb, vo, nm)) 0 n N (o + 1) nm ft fa fb (upd fo o (nI v)) := by
  unfold tO; dsimp only; rw [if_pos hv, if_pos ho]; exact ⟨rfl, ty, pa, pb, _, rfl, CR_O h hv ho⟩
theorem tO_4 {n N o : Nat} {ty pa pb vo : Nat → Nat} {nm : Int64} {ft fa fb fo : Nat → Int32} {v : Nat} (h : CR n N o ty pa pb vo nm ft fa fb fo) (hv : v < N) (ho : ¬ o < 6) : tP (tO v (n, N, o, ty, pa, pb, vo, nm)) 4 n N o nm ft fa fb fo := by
  unfold tO; dsimp only; rw [if_pos hv, if_neg ho]; exact ⟨rfl, ty, pa, pb, vo, rfl, h⟩
theorem tO_3 {n N o : Nat} {ty pa pb vo : Nat → Nat} {nm : Int64} {ft fa fb fo : Nat → Int32} {v : Nat} (h : CR n N o ty pa pb vo nm ft fa fb fo) (hv : ¬ v < N) : tP (tO v (n, N, o, ty, pa, pb, vo, nm)) 3 n N o nm ft fa fb fo := by
  unfold tO; dsimp only; rw [if_neg hv]; exact ⟨rfl, ty, pa, pb, vo, rfl, h⟩
theorem tW_y {n N o : Nat} {ty pa pb vo : Nat → Nat} {nm : Int64} {ft fa fb fo : Nat → Int32} {v : Nat} (h : CR n N o ty pa pb vo nm ft fa fb fo) (hv : v < 2 ^ n) : tP (tW v (n, N, o, ty, pa, pb, vo, nm)) 0 n N o (nm ||| ((1 : Int64) <<< ((nI v).toInt64 &&& 63))) ft fa fb fo := by
  unfold tW; dsimp only; rw [if_pos hv]; exact ⟨rfl, ty, pa, pb, vo, rfl, CR_W h hv⟩
theorem tW_3 {n N o : Nat} {ty pa pb vo : Nat → Nat} {nm : Int64} {ft fa fb fo : Nat → Int32} {v : Nat} (h : CR n N o ty pa pb vo nm ft fa fb fo) (hv : ¬ v < 2 ^ n) : tP (tW v (n, N, o, ty, pa, pb, vo, nm)) 3 n N o nm ft fa fb fo := by
  unfold tW; dsimp only; rw [if_neg hv]; exact ⟨rfl, ty, pa, pb, vo, rfl, h⟩
theorem tG_3 {n N o : Nat} {ty pa pb vo : Nat → Nat} {nm : Int64} {ft fa fb fo : Nat → Int32} {k t a b : Nat} (h : CR n N o ty pa pb vo nm ft fa fb fo) (hv : ¬ (t ≤ 5 ∧ (t = 5 ↔ k = 2) ∧ a < N ∧ (k = 3 → b < N))) : tP (tG k t a b (n, N, o, ty, pa, pb, vo, nm)) 3 n N o nm ft fa fb fo := by
  unfold tG; dsimp only; rw [if_neg hv]; exact ⟨rfl, ty, pa, pb, vo, rfl, h⟩
theorem tG_4 {n N o : Nat} {ty pa pb vo : Nat → Nat} {nm : Int64} {ft fa fb fo : Nat → Int32} {k t a b : Nat} (h : CR n N o ty pa pb vo nm ft fa fb fo) (hv : t ≤ 5 ∧ (t = 5 ↔ k = 2) ∧ a < N ∧ (k = 3 → b < N)) (hr : ¬ N + 1 ≤ n + 24) : tP (tG k t a b (n, N, o, ty, pa, pb, vo, nm)) 4 n N o nm ft fa fb fo := by
  unfold tG; dsimp only; rw [if_pos hv, if_neg hr]; exact ⟨rfl, ty, pa, pb, vo, rfl, h⟩
theorem tG_y {n N o : Nat} {ty pa pb vo : Nat → Nat} {nm : Int64} {ft fa fb fo : Nat → Int32} {k t a b : Nat} {x : Int32} (h : CR n N o ty pa pb vo nm ft fa fb fo) (hv : t ≤ 5 ∧ (t = 5 ↔ k = 2) ∧ a < N ∧ (k = 3 → b < N)) (hr : N + 1 ≤ n + 24) (h23 : k = 2 ∨ k = 3) (hx : k = 3 → x = nI b) : tP (tG k t a b (n, N, o, ty, pa, pb, vo, nm)) 0 n (N + 1) o nm (upd ft N (nI t)) (upd fa N (nI a)) (upd fb N (if nI t = 5 then nI a else x)) fo := by
  unfold tG; dsimp only; rw [if_pos hv, if_pos hr]
  refine ⟨rfl, _, _, _, vo, rfl, CR_G h hv.1 hv.2.2.1 (fun q => ?_) hr rfl⟩
  have k3 : k = 3 := h23.resolve_left (mt hv.2.1.mpr q)
  exact ⟨hv.2.2.2 k3, hx k3⟩
theorem op_k {t k : Nat} (ht : t ≤ 5) (h23 : k = 2 ∨ k = 3) : ((if nI t = 6 then (0 : Int32) else if nI t = 5 then 1 else 2) = nI k - 1) ↔ (t = 5 ↔ k = 2) := by
  have h6 : ¬ nI t = (6 : Int32) := fun q => by have := nI_inj (b := 6) q (by omega) (by decide); omega
  rw [if_neg h6]
  by_cases h5 : t = 5
  · subst h5
    rcases h23 with rfl | rfl <;> decide
  · rw [if_neg (show ¬ nI t = (5 : Int32) from fun q => h5 (nI_inj (b := 5) q (by omega) (by decide)))]
    rcases h23 with rfl | rfl
    · exact ⟨fun q => absurd q (by decide), fun q => absurd (q.mpr rfl) h5⟩
    · exact ⟨fun _ => ⟨fun q => absurd q h5, fun q => absurd q (by decide)⟩, fun _ => by decide⟩
theorem nI_n1 {v : Nat} (h : ¬ nI v < 1) : 1 ≤ v := by
  rcases Nat.eq_zero_or_pos v with rfl | q
  · exact absurd (by decide) h
  · exact q
set_option maxHeartbeats 4000000 in
set_option maxRecDepth 100000 in
theorem c4_takeInputs (l : Launch) (D : va_G) (g : hk_G) (ti : Nat) (sz : Nat) (rd : Nat) (tb : Nat) (yn : Value) (kc : Int32) (pz : Nat) (es : Int32) (rs : Int32) (a : Nat) (t : Nat) (f1 : Nat) (f2 : Nat) (on : Nat) (ft : Nat → Int32) (fa : Nat → Int32) (fb : Nat → Int32) (fo : Nat → Int32) (n : Nat) (N : Nat) (o : Nat) (nm : Int64) (cd : Nat) (wt : Nat) (ty : Nat → Nat) (pa : Nat → Nat) (pb : Nat → Nat) (vo : Nat → Nat) (v : Nat) (hV : CR n N o ty pa pb vo nm ft fa fb fo) (hv : v < 1000) : Met l yX4_takeInputs wsX4_takeInputs ({ frames := 1, cells := 0, slots := 0, locals := 22 }) (va_Pc [.ref rd, .int (nI v)] (hk_In D g ti [(rd, .inr (4, [.ref tb, .ref a, yn, .int kc, .int (nI pz), .int es, .int rs])), (a, .inr (1, [.ref t, .ref f1, .ref f2, .ref on, .int (nI n), .int (nI N), .int (nI o), .long nm, .int (nI cd), .int (nI wt)])), (t, .inl (g.2.1, 30, .inl ft)), (f1, .inl (g.2.1, 30, .inl fa)), (f2, .inl (g.2.1, 30, .inl fb)), (on, .inl (g.2.1, 6, .inl fo))] sz)) (va_Qi (S := Nat × Nat × Nat × Int64 × (Nat → Int32)) (fun r u => tP (tI v (n, N, o, ty, pa, pb, vo, nm)) r u.1 u.2.1 u.2.2.1 u.2.2.2.1 u.2.2.2.2 fa fb fo) (fun u => hk_Out D (va_A [(rd, .inr (4, [.ref tb, .ref a, yn, .int kc, .int (nI pz), .int es, .int rs])), (a, .inr (1, [.ref t, .ref f1, .ref f2, .ref on, .int (nI n), .int (nI N), .int (nI o), .long nm, .int (nI cd), .int (nI wt)])), (t, .inl (g.2.1, 30, .inl ft)), (f1, .inl (g.2.1, 30, .inl fa)), (f2, .inl (g.2.1, 30, .inl fb)), (on, .inl (g.2.1, 6, .inl fo))] sz) (match u with | (n', N', o', m', f') => [(rd, .inr (4, [.ref tb, .ref a, yn, .int kc, .int (nI pz), .int es, .int rs])), (a, .inr (1, [.ref t, .ref f1, .ref f2, .ref on, .int (nI n'), .int (nI N'), .int (nI o'), .long m', .int (nI cd), .int (nI wt)])), (t, .inl (g.2.1, 30, .inl f')), (f1, .inl (g.2.1, 30, .inl fa)), (f2, .inl (g.2.1, 30, .inl fb)), (on, .inl (g.2.1, 6, .inl fo))])) (va_A [(rd, .inr (4, [.ref tb, .ref a, yn, .int kc, .int (nI pz), .int es, .int rs])), (a, .inr (1, [.ref t, .ref f1, .ref f2, .ref on, .int (nI n), .int (nI N), .int (nI o), .long nm, .int (nI cd), .int (nI wt)])), (t, .inl (g.2.1, 30, .inl ft)), (f1, .inl (g.2.1, 30, .inl fa)), (f2, .inl (g.2.1, 30, .inl fb)), (on, .inl (g.2.1, 6, .inl fo))] sz)) 0 0 (va_A [(rd, .inr (4, [.ref tb, .ref a, yn, .int kc, .int (nI pz), .int es, .int rs])), (a, .inr (1, [.ref t, .ref f1, .ref f2, .ref on, .int (nI n), .int (nI N), .int (nI o), .long nm, .int (nI cd), .int (nI wt)])), (t, .inl (g.2.1, 30, .inl ft)), (f1, .inl (g.2.1, 30, .inl fa)), (f2, .inl (g.2.1, 30, .inl fb)), (on, .inl (g.2.1, 6, .inl fo))] sz) := by
  refine Met.ofW (cc := cX4_takeInputs) (maxL := 2) (ret := (some .int)) (by decide) rfl ?_
  intro p e s m args below meth c s₁ Bd hml hv
  obtain ⟨rfl, hsz, hP, hD0, hE⟩ := hv
  have hx := Bd.exec
  have hb := Bd.bytes
  have hr := Bd.returns
  have hts := atoms_spec (ws := wsX4_takeInputs) Bd.pre
  have hown : s.vm.findClass RX4 = some m.cls := findClass_of_methodNamed Bd.named
  have hlocks := Bd.notSynchronized
  have hK := hE.1
  have hi4 : ∀ w ∈ wsX40, w ∈ wsX4_takeInputs := fun w h => List.mem_cons_of_mem _ (List.mem_append_left _ (List.mem_append_right _ h))
  subst hsz
  have hD := hD0.self (sz := s.heap.size)
  generalize hAe : va_A [(rd, .inr (4, [.ref tb, .ref a, yn, .int kc, .int (nI pz), .int es, .int rs])), (a, .inr (1, [.ref t, .ref f1, .ref f2, .ref on, .int (nI n), .int (nI N), .int (nI o), .long nm, .int (nI cd), .int (nI wt)])), (t, .inl (g.2.1, 30, .inl ft)), (f1, .inl (g.2.1, 30, .inl fa)), (f2, .inl (g.2.1, 30, .inl fb)), (on, .inl (g.2.1, 6, .inl fo))] s.heap.size = A at hD hE ⊢
  have hA : ∀ q : Nat, s.heap.size ≤ q → A q := fun q h => by rw [← hAe]; exact Or.inr h
  have hS : va_S A s.heap s.heap [] := va_S.rf
  have hl := lv_entry ([.ref rd, .int (nI v)]) (n := 2) (Nat.le_of_ble_eq_true rfl)
  rw [lg_entry_eq]
  generalize (lg_sl ([.ref rd, .int (nI v)]) ++ List.replicate (2 - (lg_sl ([.ref rd, .int (nI v)])).length) Slot.unset).toArray = ls at hl ⊢
  have hl : lv_has ls 2 [(0, .ref rd), (1, .int (nI v))] := hl
  refine lv_iload_n hx hb dX4_takeInputs_0 rfl (lv_at hl 1 rfl) ?_
  refine lv_iconst (v := 1) hx hb dX4_takeInputs_1 (by decide) ?_
  refine lv_icmp_lt (tgt := 11) hx hb dX4_takeInputs_2 (by decide) (fun c_1 => ?_) (fun c_1 => ?_)
  · have c_1h : nI v < (1 : Int32) := c_1
    refine lv_iconst (v := 3) hx hb dX4_takeInputs_11 (by decide) ?_
    have hP9 := hP.sub (ws' := [(rd, .inr (4, [.ref tb, .ref a, yn, .int kc, .int (nI pz), .int es, .int rs])), (a, .inr (1, [.ref t, .ref f1, .ref f2, .ref on, .int (nI n), .int (nI N), .int (nI o), .long nm, .int (nI cd), .int (nI wt)])), (t, .inl (g.2.1, 30, .inl ft)), (f1, .inl (g.2.1, 30, .inl fa)), (f2, .inl (g.2.1, 30, .inl fb)), (on, .inl (g.2.1, 6, .inl fo))]) [0, 1, 2, 3, 4, 5] rfl
    have hD9 := hD.sub (ws' := [(rd, .inr (4, [.ref tb, .ref a, yn, .int kc, .int (nI pz), .int es, .int rs])), (a, .inr (1, [.ref t, .ref f1, .ref f2, .ref on, .int (nI n), .int (nI N), .int (nI o), .long nm, .int (nI cd), .int (nI wt)])), (t, .inl (g.2.1, 30, .inl ft)), (f1, .inl (g.2.1, 30, .inl fa)), (f2, .inl (g.2.1, 30, .inl fb)), (on, .inl (g.2.1, 6, .inl fo))]) [0, 1, 2, 3, 4, 5] (by decide) rfl
    exact W.iret (v := 3) hx hb hr (fun tt ht hW => ⟨⟨_, (n, N, o, nm, ft), rfl, tI_n hV (fun z => by have := (nI_ltI (b := 1) (by omega) (by decide)).mp c_1; omega), by rw [ht]; exact hP9, hD9⟩, hS.F ht⟩) hS.2.2 dX4_takeInputs_12
  · have c_1h : ¬ nI v < (1 : Int32) := c_1
    refine lv_iload_n hx hb dX4_takeInputs_5 rfl (lv_at hl 1 rfl) ?_
    refine lv_bipush (v := 6) hx hb dX4_takeInputs_6 (by decide) ?_
    refine lv_icmp_le (tgt := 13) hx hb dX4_takeInputs_8 (by decide) (fun c_2 => ?_) (fun c_2 => ?_)
    · have c_2h : nI v ≤ (6 : Int32) := c_2
      refine lv_aload_n hx hb dX4_takeInputs_13 rfl (lv_at hl 0 rfl) ?_
      refine va_get (D := D) (ci := 4) (v := .ref a) (C := RX4) (T := TX4) (N := 7) hx hb hts hi4 hown hK hP 0 rfl rfl 1 (by decide) (hts (.fieldLink RX4 12 "SelfCheckingCircuit$TextReader" "draft" "LSelfCheckingCircuit$Circuit;") (by decide +kernel)) (fun _ h9 => h9) rfl dX4_takeInputs_14 ?_
      refine lv_iload_n hx hb dX4_takeInputs_17 rfl (lv_at hl 1 rfl) ?_
      refine hk_cmv (wr := [(rd, .inr (4, [.ref tb, .ref a, yn, .int kc, .int (nI pz), .int es, .int rs]))]) (va_runVN (As := [.int (nI v)]) (rest := []) ⟨hx, hb, hml, hown, hts⟩ (c1_begin l D g ti _ a t f1 f2 on ft fa fb fo (nI n) (nI N) (nI o) nm cd wt v ((nI_leI (b := 6) (by omega) (by decide)).mp c_2)) ⟨va_cnB 1 hts gX4_takeInputs_X1_begin_n89 rfl rfl rfl (nm_X4_89 hE.2.1) (hts (.initialized RX1) (by decide +kernel)) (by decide +kernel) ⟨Nat.le_of_ble_eq_true rfl, Nat.le_of_ble_eq_true rfl⟩, hts (.instanceMethod yX1_begin) (by decide +kernel), hts (.selects RX1 yX1_begin yX1_begin) (by decide +kernel)⟩ (hk_inV hE hP hD hS hA 1 rfl rfl [1, 2, 3, 4, 5] (by decide) rfl rfl) rfl rfl hl.1 rfl (lv_room (Nat.le_of_ble_eq_true rfl)) dX4_takeInputs_18 ⟨Nat.zero_le _, Nat.zero_le _⟩) hP hD hS hA [1, 2, 3, 4, 5] [0] rfl rfl (by decide) (by decide) (fun f9 H locs hr_4 hP hD hS => ?_)
      try dsimp only at hr_4
      have hP : va_P D vwCl [(rd, .inr (4, [.ref tb, .ref a, yn, .int kc, .int (nI pz), .int es, .int rs])), (a, .inr (1, [.ref t, .ref f1, .ref f2, .ref on, .int (nI v), .int (nI v), .int (nI 0), .long 0, .int (nI cd), .int (nI wt)])), (t, .inl (g.2.1, 30, .inl f9)), (f1, .inl (g.2.1, 30, .inl fa)), (f2, .inl (g.2.1, 30, .inl fb)), (on, .inl (g.2.1, 6, .inl fo))] H := hP
      have hD : va_D A [(rd, .inr (4, [.ref tb, .ref a, yn, .int kc, .int (nI pz), .int es, .int rs])), (a, .inr (1, [.ref t, .ref f1, .ref f2, .ref on, .int (nI v), .int (nI v), .int (nI 0), .long 0, .int (nI cd), .int (nI wt)])), (t, .inl (g.2.1, 30, .inl f9)), (f1, .inl (g.2.1, 30, .inl fa)), (f2, .inl (g.2.1, 30, .inl fb)), (on, .inl (g.2.1, 6, .inl fo))] := hD
      refine lv_iconst (v := 0) hx hb dX4_takeInputs_21 (by decide) ?_
      have hP9 := hP.sub (ws' := [(rd, .inr (4, [.ref tb, .ref a, yn, .int kc, .int (nI pz), .int es, .int rs])), (a, .inr (1, [.ref t, .ref f1, .ref f2, .ref on, .int (nI v), .int (nI v), .int (nI 0), .long 0, .int (nI cd), .int (nI wt)])), (t, .inl (g.2.1, 30, .inl f9)), (f1, .inl (g.2.1, 30, .inl fa)), (f2, .inl (g.2.1, 30, .inl fb)), (on, .inl (g.2.1, 6, .inl fo))]) [0, 1, 2, 3, 4, 5] rfl
      have hD9 := hD.sub (ws' := [(rd, .inr (4, [.ref tb, .ref a, yn, .int kc, .int (nI pz), .int es, .int rs])), (a, .inr (1, [.ref t, .ref f1, .ref f2, .ref on, .int (nI v), .int (nI v), .int (nI 0), .long 0, .int (nI cd), .int (nI wt)])), (t, .inl (g.2.1, 30, .inl f9)), (f1, .inl (g.2.1, 30, .inl fa)), (f2, .inl (g.2.1, 30, .inl fb)), (on, .inl (g.2.1, 6, .inl fo))]) [0, 1, 2, 3, 4, 5] (by decide) rfl
      exact W.iret (v := 0) hx hb hr (fun tt ht hW => ⟨⟨_, (v, v, 0, 0, f9), rfl, tI_y (nI_n1 c_1) ((nI_leI (b := 6) (by omega) (by decide)).mp c_2) hr_4, by rw [ht]; exact hP9, hD9⟩, hS.F ht⟩) hS.2.2 dX4_takeInputs_22
    · have c_2h : ¬ nI v ≤ (6 : Int32) := c_2
      refine lv_iconst (v := 3) hx hb dX4_takeInputs_11 (by decide) ?_
      have hP9 := hP.sub (ws' := [(rd, .inr (4, [.ref tb, .ref a, yn, .int kc, .int (nI pz), .int es, .int rs])), (a, .inr (1, [.ref t, .ref f1, .ref f2, .ref on, .int (nI n), .int (nI N), .int (nI o), .long nm, .int (nI cd), .int (nI wt)])), (t, .inl (g.2.1, 30, .inl ft)), (f1, .inl (g.2.1, 30, .inl fa)), (f2, .inl (g.2.1, 30, .inl fb)), (on, .inl (g.2.1, 6, .inl fo))]) [0, 1, 2, 3, 4, 5] rfl
      have hD9 := hD.sub (ws' := [(rd, .inr (4, [.ref tb, .ref a, yn, .int kc, .int (nI pz), .int es, .int rs])), (a, .inr (1, [.ref t, .ref f1, .ref f2, .ref on, .int (nI n), .int (nI N), .int (nI o), .long nm, .int (nI cd), .int (nI wt)])), (t, .inl (g.2.1, 30, .inl ft)), (f1, .inl (g.2.1, 30, .inl fa)), (f2, .inl (g.2.1, 30, .inl fb)), (on, .inl (g.2.1, 6, .inl fo))]) [0, 1, 2, 3, 4, 5] (by decide) rfl
      exact W.iret (v := 3) hx hb hr (fun tt ht hW => ⟨⟨_, (n, N, o, nm, ft), rfl, tI_n hV (fun z => c_2 (nI_le (b := 6) z.2 (by decide))), by rw [ht]; exact hP9, hD9⟩, hS.F ht⟩) hS.2.2 dX4_takeInputs_12
set_option maxHeartbeats 4000000 in
set_option maxRecDepth 100000 in
theorem c4_takeOutput (l : Launch) (D : va_G) (g : hk_G) (ti : Nat) (sz : Nat) (rd : Nat) (tb : Nat) (yn : Value) (kc : Int32) (pz : Nat) (es : Int32) (rs : Int32) (a : Nat) (t : Nat) (f1 : Nat) (f2 : Nat) (on : Nat) (ft : Nat → Int32) (fa : Nat → Int32) (fb : Nat → Int32) (fo : Nat → Int32) (n : Nat) (N : Nat) (o : Nat) (nm : Int64) (cd : Nat) (wt : Nat) (ty : Nat → Nat) (pa : Nat → Nat) (pb : Nat → Nat) (vo : Nat → Nat) (v : Nat) (hV : CR n N o ty pa pb vo nm ft fa fb fo) (hv : v < 1000) : Met l yX4_takeOutput wsX4_takeOutput ({ frames := 1, cells := 0, slots := 0, locals := 21 }) (va_Pc [.ref rd, .int (nI v)] (hk_In D g ti [(rd, .inr (4, [.ref tb, .ref a, yn, .int kc, .int (nI pz), .int es, .int rs])), (a, .inr (1, [.ref t, .ref f1, .ref f2, .ref on, .int (nI n), .int (nI N), .int (nI o), .long nm, .int (nI cd), .int (nI wt)])), (t, .inl (g.2.1, 30, .inl ft)), (f1, .inl (g.2.1, 30, .inl fa)), (f2, .inl (g.2.1, 30, .inl fb)), (on, .inl (g.2.1, 6, .inl fo))] sz)) (va_Qi (S := Nat × (Nat → Int32)) (fun r u => tP (tO v (n, N, o, ty, pa, pb, vo, nm)) r n N u.1 nm ft fa fb u.2) (fun u => hk_Out D (va_A [(rd, .inr (4, [.ref tb, .ref a, yn, .int kc, .int (nI pz), .int es, .int rs])), (a, .inr (1, [.ref t, .ref f1, .ref f2, .ref on, .int (nI n), .int (nI N), .int (nI o), .long nm, .int (nI cd), .int (nI wt)])), (t, .inl (g.2.1, 30, .inl ft)), (f1, .inl (g.2.1, 30, .inl fa)), (f2, .inl (g.2.1, 30, .inl fb)), (on, .inl (g.2.1, 6, .inl fo))] sz) (match u with | (o', f') => [(rd, .inr (4, [.ref tb, .ref a, yn, .int kc, .int (nI pz), .int es, .int rs])), (a, .inr (1, [.ref t, .ref f1, .ref f2, .ref on, .int (nI n), .int (nI N), .int (nI o'), .long nm, .int (nI cd), .int (nI wt)])), (t, .inl (g.2.1, 30, .inl ft)), (f1, .inl (g.2.1, 30, .inl fa)), (f2, .inl (g.2.1, 30, .inl fb)), (on, .inl (g.2.1, 6, .inl f'))])) (va_A [(rd, .inr (4, [.ref tb, .ref a, yn, .int kc, .int (nI pz), .int es, .int rs])), (a, .inr (1, [.ref t, .ref f1, .ref f2, .ref on, .int (nI n), .int (nI N), .int (nI o), .long nm, .int (nI cd), .int (nI wt)])), (t, .inl (g.2.1, 30, .inl ft)), (f1, .inl (g.2.1, 30, .inl fa)), (f2, .inl (g.2.1, 30, .inl fb)), (on, .inl (g.2.1, 6, .inl fo))] sz)) 0 0 (va_A [(rd, .inr (4, [.ref tb, .ref a, yn, .int kc, .int (nI pz), .int es, .int rs])), (a, .inr (1, [.ref t, .ref f1, .ref f2, .ref on, .int (nI n), .int (nI N), .int (nI o), .long nm, .int (nI cd), .int (nI wt)])), (t, .inl (g.2.1, 30, .inl ft)), (f1, .inl (g.2.1, 30, .inl fa)), (f2, .inl (g.2.1, 30, .inl fb)), (on, .inl (g.2.1, 6, .inl fo))] sz) := by
  refine Met.ofW (cc := cX4_takeOutput) (maxL := 2) (ret := (some .int)) (by decide) rfl ?_
  intro p e s m args below meth c s₁ Bd hml hv
  obtain ⟨rfl, hsz, hP, hD0, hE⟩ := hv
  have hx := Bd.exec
  have hb := Bd.bytes
  have hr := Bd.returns
  have hts := atoms_spec (ws := wsX4_takeOutput) Bd.pre
  have hown : s.vm.findClass RX4 = some m.cls := findClass_of_methodNamed Bd.named
  have hlocks := Bd.notSynchronized
  have hK := hE.1
  have hi1 : ∀ w ∈ wsX10, w ∈ wsX4_takeOutput := fun w h => List.mem_cons_of_mem _ (List.mem_append_right _ h)
  have hi4 : ∀ w ∈ wsX40, w ∈ wsX4_takeOutput := fun w h => List.mem_cons_of_mem _ (List.mem_append_left _ (List.mem_append_right _ h))
  subst hsz
  have hD := hD0.self (sz := s.heap.size)
  generalize hAe : va_A [(rd, .inr (4, [.ref tb, .ref a, yn, .int kc, .int (nI pz), .int es, .int rs])), (a, .inr (1, [.ref t, .ref f1, .ref f2, .ref on, .int (nI n), .int (nI N), .int (nI o), .long nm, .int (nI cd), .int (nI wt)])), (t, .inl (g.2.1, 30, .inl ft)), (f1, .inl (g.2.1, 30, .inl fa)), (f2, .inl (g.2.1, 30, .inl fb)), (on, .inl (g.2.1, 6, .inl fo))] s.heap.size = A at hD hE ⊢
  have hA : ∀ q : Nat, s.heap.size ≤ q → A q := fun q h => by rw [← hAe]; exact Or.inr h
  have hS : va_S A s.heap s.heap [] := va_S.rf
  have hl := lv_entry ([.ref rd, .int (nI v)]) (n := 2) (Nat.le_of_ble_eq_true rfl)
  rw [lg_entry_eq]
  generalize (lg_sl ([.ref rd, .int (nI v)]) ++ List.replicate (2 - (lg_sl ([.ref rd, .int (nI v)])).length) Slot.unset).toArray = ls at hl ⊢
  have hl : lv_has ls 2 [(0, .ref rd), (1, .int (nI v))] := hl
  refine lv_aload_n hx hb dX4_takeOutput_0 rfl (lv_at hl 0 rfl) ?_
  refine va_get (D := D) (ci := 4) (v := .ref a) (C := RX4) (T := TX4) (N := 7) hx hb hts hi4 hown hK hP 0 rfl rfl 1 (by decide) (hts (.fieldLink RX4 12 "SelfCheckingCircuit$TextReader" "draft" "LSelfCheckingCircuit$Circuit;") (by decide +kernel)) (fun _ h9 => h9) rfl dX4_takeOutput_1 ?_
  refine lv_iload_n hx hb dX4_takeOutput_4 rfl (lv_at hl 1 rfl) ?_
  refine hk_csi (va_runVN (As := [.int (nI v)]) (rest := []) ⟨hx, hb, hml, hown, hts⟩ (c1_hasNode l D g ti a (.ref t) (.ref f1) (.ref f2) (.ref on) (nI n) (nI N) (nI o) nm (nI cd) (nI wt) (nI v) ) ⟨va_cnB 1 hts gX4_takeOutput_X1_hasNode_n96 rfl rfl rfl (nm_X4_96 hE.2.1) (hts (.initialized RX1) (by decide +kernel)) (by decide +kernel) ⟨Nat.le_of_ble_eq_true rfl, Nat.le_of_ble_eq_true rfl⟩, hts (.instanceMethod yX1_hasNode) (by decide +kernel), hts (.selects RX1 yX1_hasNode yX1_hasNode) (by decide +kernel)⟩ (hk_roV hE hP hS 1 rfl rfl [1] rfl rfl) rfl rfl hl.1 rfl (lv_room (Nat.le_of_ble_eq_true rfl)) dX4_takeOutput_5 ⟨Nat.zero_le _, Nat.zero_le _⟩) (fun r_1 hr_2 => ?_)
  subst hr_2
  refine hk_ti (bI (decide (v < N))) (by rw [hn_eq, hn_v (by omega) (by have := hV.1; omega)]) ?_
  refine lv_if_ne (tgt := 13) hx hb dX4_takeOutput_8 (by decide) (fun c_3 => ?_) (fun c_3 => ?_)
  · have c_3h : ¬ bI (decide (v < N)) = (0 : Int32) := c_3
    refine lv_aload_n hx hb dX4_takeOutput_13 rfl (lv_at hl 0 rfl) ?_
    refine va_get (D := D) (ci := 4) (v := .ref a) (C := RX4) (T := TX4) (N := 7) hx hb hts hi4 hown hK hP 0 rfl rfl 1 (by decide) (hts (.fieldLink RX4 12 "SelfCheckingCircuit$TextReader" "draft" "LSelfCheckingCircuit$Circuit;") (by decide +kernel)) (fun _ h9 => h9) rfl dX4_takeOutput_14 ?_
    refine va_getN (D := D) (ci := 1) (v := .int (nI o)) (C := RX1) (T := TX1) (N := 10) hx hb hts hi1 hown hK hP 1 rfl rfl 6 (by decide) (nf_X4_105 hE.2.1) (fun _ h9 => h9) rfl dX4_takeOutput_17 ?_
    refine lv_bipush (v := 6) hx hb dX4_takeOutput_20 (by decide) ?_
    refine lv_icmp_lt (tgt := 27) hx hb dX4_takeOutput_22 (by decide) (fun c_4 => ?_) (fun c_4 => ?_)
    · have c_4h : nI o < (6 : Int32) := c_4
      refine lv_aload_n hx hb dX4_takeOutput_27 rfl (lv_at hl 0 rfl) ?_
      refine va_get (D := D) (ci := 4) (v := .ref a) (C := RX4) (T := TX4) (N := 7) hx hb hts hi4 hown hK hP 0 rfl rfl 1 (by decide) (hts (.fieldLink RX4 12 "SelfCheckingCircuit$TextReader" "draft" "LSelfCheckingCircuit$Circuit;") (by decide +kernel)) (fun _ h9 => h9) rfl dX4_takeOutput_28 ?_
      refine lv_iload_n hx hb dX4_takeOutput_31 rfl (lv_at hl 1 rfl) ?_
      refine hk_cmv (wr := [(rd, .inr (4, [.ref tb, .ref a, yn, .int kc, .int (nI pz), .int es, .int rs]))]) (va_runVN (As := [.int (nI v)]) (rest := []) ⟨hx, hb, hml, hown, hts⟩ (c1_putOutput l D g ti _ a t f1 f2 on ft fa fb fo n N o nm cd wt (nI v) ((nI_ltI (b := 6) (by have := hV.1; omega) (by decide)).mp c_4)) ⟨va_cnB 1 hts gX4_takeOutput_X1_putOutput_n108 rfl rfl rfl (nm_X4_108 hE.2.1) (hts (.initialized RX1) (by decide +kernel)) (by decide +kernel) ⟨Nat.le_of_ble_eq_true rfl, Nat.le_of_ble_eq_true rfl⟩, hts (.instanceMethod yX1_putOutput) (by decide +kernel), hts (.selects RX1 yX1_putOutput yX1_putOutput) (by decide +kernel)⟩ (hk_inV hE hP hD hS hA 1 rfl rfl [1, 2, 3, 4, 5] (by decide) rfl rfl) rfl rfl hl.1 rfl (lv_room (Nat.le_of_ble_eq_true rfl)) dX4_takeOutput_32 ⟨Nat.zero_le _, Nat.zero_le _⟩) hP hD hS hA [1, 2, 3, 4, 5] [0] rfl rfl (by decide) (by decide) (fun _u H locs hr_6 hP hD hS => ?_)
      try dsimp only at hr_6
      have hP : va_P D vwCl [(rd, .inr (4, [.ref tb, .ref a, yn, .int kc, .int (nI pz), .int es, .int rs])), (a, .inr (1, [.ref t, .ref f1, .ref f2, .ref on, .int (nI n), .int (nI N), .int (nI (o + 1)), .long nm, .int (nI cd), .int (nI wt)])), (t, .inl (g.2.1, 30, .inl ft)), (f1, .inl (g.2.1, 30, .inl fa)), (f2, .inl (g.2.1, 30, .inl fb)), (on, .inl (g.2.1, 6, .inl (upd fo o (nI v))))] H := hP
      have hD : va_D A [(rd, .inr (4, [.ref tb, .ref a, yn, .int kc, .int (nI pz), .int es, .int rs])), (a, .inr (1, [.ref t, .ref f1, .ref f2, .ref on, .int (nI n), .int (nI N), .int (nI (o + 1)), .long nm, .int (nI cd), .int (nI wt)])), (t, .inl (g.2.1, 30, .inl ft)), (f1, .inl (g.2.1, 30, .inl fa)), (f2, .inl (g.2.1, 30, .inl fb)), (on, .inl (g.2.1, 6, .inl (upd fo o (nI v))))] := hD
      refine lv_iconst (v := 0) hx hb dX4_takeOutput_35 (by decide) ?_
      have hP9 := hP.sub (ws' := [(rd, .inr (4, [.ref tb, .ref a, yn, .int kc, .int (nI pz), .int es, .int rs])), (a, .inr (1, [.ref t, .ref f1, .ref f2, .ref on, .int (nI n), .int (nI N), .int (nI (o + 1)), .long nm, .int (nI cd), .int (nI wt)])), (t, .inl (g.2.1, 30, .inl ft)), (f1, .inl (g.2.1, 30, .inl fa)), (f2, .inl (g.2.1, 30, .inl fb)), (on, .inl (g.2.1, 6, .inl (upd fo o (nI v))))]) [0, 1, 2, 3, 4, 5] rfl
      have hD9 := hD.sub (ws' := [(rd, .inr (4, [.ref tb, .ref a, yn, .int kc, .int (nI pz), .int es, .int rs])), (a, .inr (1, [.ref t, .ref f1, .ref f2, .ref on, .int (nI n), .int (nI N), .int (nI (o + 1)), .long nm, .int (nI cd), .int (nI wt)])), (t, .inl (g.2.1, 30, .inl ft)), (f1, .inl (g.2.1, 30, .inl fa)), (f2, .inl (g.2.1, 30, .inl fb)), (on, .inl (g.2.1, 6, .inl (upd fo o (nI v))))]) [0, 1, 2, 3, 4, 5] (by decide) rfl
      exact W.iret (v := 0) hx hb hr (fun tt ht hW => ⟨⟨_, ((o + 1), (upd fo o (nI v))), rfl, tO_y hV (bd_t c_3) ((nI_ltI (b := 6) (by have := hV.1; omega) (by decide)).mp c_4), by rw [ht]; exact hP9, hD9⟩, hS.F ht⟩) hS.2.2 dX4_takeOutput_36
    · have c_4h : ¬ nI o < (6 : Int32) := c_4
      refine lv_iconst (v := 4) hx hb dX4_takeOutput_25 (by decide) ?_
      have hP9 := hP.sub (ws' := [(rd, .inr (4, [.ref tb, .ref a, yn, .int kc, .int (nI pz), .int es, .int rs])), (a, .inr (1, [.ref t, .ref f1, .ref f2, .ref on, .int (nI n), .int (nI N), .int (nI o), .long nm, .int (nI cd), .int (nI wt)])), (t, .inl (g.2.1, 30, .inl ft)), (f1, .inl (g.2.1, 30, .inl fa)), (f2, .inl (g.2.1, 30, .inl fb)), (on, .inl (g.2.1, 6, .inl fo))]) [0, 1, 2, 3, 4, 5] rfl
      have hD9 := hD.sub (ws' := [(rd, .inr (4, [.ref tb, .ref a, yn, .int kc, .int (nI pz), .int es, .int rs])), (a, .inr (1, [.ref t, .ref f1, .ref f2, .ref on, .int (nI n), .int (nI N), .int (nI o), .long nm, .int (nI cd), .int (nI wt)])), (t, .inl (g.2.1, 30, .inl ft)), (f1, .inl (g.2.1, 30, .inl fa)), (f2, .inl (g.2.1, 30, .inl fb)), (on, .inl (g.2.1, 6, .inl fo))]) [0, 1, 2, 3, 4, 5] (by decide) rfl
      exact W.iret (v := 4) hx hb hr (fun tt ht hW => ⟨⟨_, (o, fo), rfl, tO_4 hV (bd_t c_3) (fun q => c_4 (nI_lt (b := 6) q (by decide))), by rw [ht]; exact hP9, hD9⟩, hS.F ht⟩) hS.2.2 dX4_takeOutput_26
  · have c_3h : bI (decide (v < N)) = (0 : Int32) := c_3
    refine lv_iconst (v := 3) hx hb dX4_takeOutput_11 (by decide) ?_
    have hP9 := hP.sub (ws' := [(rd, .inr (4, [.ref tb, .ref a, yn, .int kc, .int (nI pz), .int es, .int rs])), (a, .inr (1, [.ref t, .ref f1, .ref f2, .ref on, .int (nI n), .int (nI N), .int (nI o), .long nm, .int (nI cd), .int (nI wt)])), (t, .inl (g.2.1, 30, .inl ft)), (f1, .inl (g.2.1, 30, .inl fa)), (f2, .inl (g.2.1, 30, .inl fb)), (on, .inl (g.2.1, 6, .inl fo))]) [0, 1, 2, 3, 4, 5] rfl
    have hD9 := hD.sub (ws' := [(rd, .inr (4, [.ref tb, .ref a, yn, .int kc, .int (nI pz), .int es, .int rs])), (a, .inr (1, [.ref t, .ref f1, .ref f2, .ref on, .int (nI n), .int (nI N), .int (nI o), .long nm, .int (nI cd), .int (nI wt)])), (t, .inl (g.2.1, 30, .inl ft)), (f1, .inl (g.2.1, 30, .inl fa)), (f2, .inl (g.2.1, 30, .inl fb)), (on, .inl (g.2.1, 6, .inl fo))]) [0, 1, 2, 3, 4, 5] (by decide) rfl
    exact W.iret (v := 3) hx hb hr (fun tt ht hW => ⟨⟨_, (o, fo), rfl, tO_3 hV (bd_f c_3), by rw [ht]; exact hP9, hD9⟩, hS.F ht⟩) hS.2.2 dX4_takeOutput_12
theorem pw_31 {n : Nat} (h : n ≤ 6) : 2 ^ n < 2 ^ 31 := Nat.lt_of_le_of_lt (Nat.pow_le_pow_right (by decide) h) (by decide : 2 ^ 6 < 2 ^ 31)
set_option maxHeartbeats 4000000 in
set_option maxRecDepth 100000 in
theorem c4_takeNormal (l : Launch) (D : va_G) (g : hk_G) (ti : Nat) (sz : Nat) (rd : Nat) (tb : Nat) (yn : Value) (kc : Int32) (pz : Nat) (es : Int32) (rs : Int32) (a : Nat) (t : Nat) (f1 : Nat) (f2 : Nat) (on : Nat) (ft : Nat → Int32) (fa : Nat → Int32) (fb : Nat → Int32) (fo : Nat → Int32) (n : Nat) (N : Nat) (o : Nat) (nm : Int64) (cd : Nat) (wt : Nat) (ty : Nat → Nat) (pa : Nat → Nat) (pb : Nat → Nat) (vo : Nat → Nat) (v : Nat) (hV : CR n N o ty pa pb vo nm ft fa fb fo) (hv : v < 1000) : Met l yX4_takeNormal wsX4_takeNormal ({ frames := 1, cells := 0, slots := 0, locals := 21 }) (va_Pc [.ref rd, .int (nI v)] (hk_In D g ti [(rd, .inr (4, [.ref tb, .ref a, yn, .int kc, .int (nI pz), .int es, .int rs])), (a, .inr (1, [.ref t, .ref f1, .ref f2, .ref on, .int (nI n), .int (nI N), .int (nI o), .long nm, .int (nI cd), .int (nI wt)])), (t, .inl (g.2.1, 30, .inl ft)), (f1, .inl (g.2.1, 30, .inl fa)), (f2, .inl (g.2.1, 30, .inl fb)), (on, .inl (g.2.1, 6, .inl fo))] sz)) (va_Qi (S := Int64) (fun r m' => tP (tW v (n, N, o, ty, pa, pb, vo, nm)) r n N o m' ft fa fb fo) (fun u => hk_Out D (va_A [(rd, .inr (4, [.ref tb, .ref a, yn, .int kc, .int (nI pz), .int es, .int rs])), (a, .inr (1, [.ref t, .ref f1, .ref f2, .ref on, .int (nI n), .int (nI N), .int (nI o), .long nm, .int (nI cd), .int (nI wt)])), (t, .inl (g.2.1, 30, .inl ft)), (f1, .inl (g.2.1, 30, .inl fa)), (f2, .inl (g.2.1, 30, .inl fb)), (on, .inl (g.2.1, 6, .inl fo))] sz) (match u with | m' => [(rd, .inr (4, [.ref tb, .ref a, yn, .int kc, .int (nI pz), .int es, .int rs])), (a, .inr (1, [.ref t, .ref f1, .ref f2, .ref on, .int (nI n), .int (nI N), .int (nI o), .long m', .int (nI cd), .int (nI wt)])), (t, .inl (g.2.1, 30, .inl ft)), (f1, .inl (g.2.1, 30, .inl fa)), (f2, .inl (g.2.1, 30, .inl fb)), (on, .inl (g.2.1, 6, .inl fo))])) (va_A [(rd, .inr (4, [.ref tb, .ref a, yn, .int kc, .int (nI pz), .int es, .int rs])), (a, .inr (1, [.ref t, .ref f1, .ref f2, .ref on, .int (nI n), .int (nI N), .int (nI o), .long nm, .int (nI cd), .int (nI wt)])), (t, .inl (g.2.1, 30, .inl ft)), (f1, .inl (g.2.1, 30, .inl fa)), (f2, .inl (g.2.1, 30, .inl fb)), (on, .inl (g.2.1, 6, .inl fo))] sz)) 0 0 (va_A [(rd, .inr (4, [.ref tb, .ref a, yn, .int kc, .int (nI pz), .int es, .int rs])), (a, .inr (1, [.ref t, .ref f1, .ref f2, .ref on, .int (nI n), .int (nI N), .int (nI o), .long nm, .int (nI cd), .int (nI wt)])), (t, .inl (g.2.1, 30, .inl ft)), (f1, .inl (g.2.1, 30, .inl fa)), (f2, .inl (g.2.1, 30, .inl fb)), (on, .inl (g.2.1, 6, .inl fo))] sz) := by
  refine Met.ofW (cc := cX4_takeNormal) (maxL := 2) (ret := (some .int)) (by decide) rfl ?_
  intro p e s m args below meth c s₁ Bd hml hv
  obtain ⟨rfl, hsz, hP, hD0, hE⟩ := hv
  have hx := Bd.exec
  have hb := Bd.bytes
  have hr := Bd.returns
  have hts := atoms_spec (ws := wsX4_takeNormal) Bd.pre
  have hown : s.vm.findClass RX4 = some m.cls := findClass_of_methodNamed Bd.named
  have hlocks := Bd.notSynchronized
  have hK := hE.1
  have hi1 : ∀ w ∈ wsX10, w ∈ wsX4_takeNormal := fun w h => List.mem_cons_of_mem _ (List.mem_append_right _ h)
  have hi4 : ∀ w ∈ wsX40, w ∈ wsX4_takeNormal := fun w h => List.mem_cons_of_mem _ (List.mem_append_left _ (List.mem_append_right _ h))
  subst hsz
  have hD := hD0.self (sz := s.heap.size)
  generalize hAe : va_A [(rd, .inr (4, [.ref tb, .ref a, yn, .int kc, .int (nI pz), .int es, .int rs])), (a, .inr (1, [.ref t, .ref f1, .ref f2, .ref on, .int (nI n), .int (nI N), .int (nI o), .long nm, .int (nI cd), .int (nI wt)])), (t, .inl (g.2.1, 30, .inl ft)), (f1, .inl (g.2.1, 30, .inl fa)), (f2, .inl (g.2.1, 30, .inl fb)), (on, .inl (g.2.1, 6, .inl fo))] s.heap.size = A at hD hE ⊢
  have hA : ∀ q : Nat, s.heap.size ≤ q → A q := fun q h => by rw [← hAe]; exact Or.inr h
  have hS : va_S A s.heap s.heap [] := va_S.rf
  have hl := lv_entry ([.ref rd, .int (nI v)]) (n := 2) (Nat.le_of_ble_eq_true rfl)
  rw [lg_entry_eq]
  generalize (lg_sl ([.ref rd, .int (nI v)]) ++ List.replicate (2 - (lg_sl ([.ref rd, .int (nI v)])).length) Slot.unset).toArray = ls at hl ⊢
  have hl : lv_has ls 2 [(0, .ref rd), (1, .int (nI v))] := hl
  refine lv_aload_n hx hb dX4_takeNormal_0 rfl (lv_at hl 0 rfl) ?_
  refine va_get (D := D) (ci := 4) (v := .ref a) (C := RX4) (T := TX4) (N := 7) hx hb hts hi4 hown hK hP 0 rfl rfl 1 (by decide) (hts (.fieldLink RX4 12 "SelfCheckingCircuit$TextReader" "draft" "LSelfCheckingCircuit$Circuit;") (by decide +kernel)) (fun _ h9 => h9) rfl dX4_takeNormal_1 ?_
  refine lv_iload_n hx hb dX4_takeNormal_4 rfl (lv_at hl 1 rfl) ?_
  refine hk_csi (va_runVN (As := [.int (nI v)]) (rest := []) ⟨hx, hb, hml, hown, hts⟩ (c1_hasWord l D g ti a (.ref t) (.ref f1) (.ref f2) (.ref on) (nI n) (nI N) (nI o) nm (nI cd) (nI wt) (nI v) ) ⟨va_cnB 1 hts gX4_takeNormal_X1_hasWord_n111 rfl rfl rfl (nm_X4_111 hE.2.1) (hts (.initialized RX1) (by decide +kernel)) (by decide +kernel) ⟨Nat.le_of_ble_eq_true rfl, Nat.le_of_ble_eq_true rfl⟩, hts (.instanceMethod yX1_hasWord) (by decide +kernel), hts (.selects RX1 yX1_hasWord yX1_hasWord) (by decide +kernel)⟩ (hk_roV hE hP hS 1 rfl rfl [1] rfl rfl) rfl rfl hl.1 rfl (lv_room (Nat.le_of_ble_eq_true rfl)) dX4_takeNormal_5 ⟨Nat.zero_le _, Nat.zero_le _⟩) (fun r_1 hr_2 => ?_)
  subst hr_2
  refine hk_ti (bI (decide (v < 2 ^ n))) (by rw [hn_pw n (by have := hV.1.1; omega), hn_eq, hn_v (by omega) (pw_31 hV.1.1)]) ?_
  refine lv_if_ne (tgt := 13) hx hb dX4_takeNormal_8 (by decide) (fun c_3 => ?_) (fun c_3 => ?_)
  · have c_3h : ¬ bI (decide (v < 2 ^ n)) = (0 : Int32) := c_3
    refine lv_aload_n hx hb dX4_takeNormal_13 rfl (lv_at hl 0 rfl) ?_
    refine va_get (D := D) (ci := 4) (v := .ref a) (C := RX4) (T := TX4) (N := 7) hx hb hts hi4 hown hK hP 0 rfl rfl 1 (by decide) (hts (.fieldLink RX4 12 "SelfCheckingCircuit$TextReader" "draft" "LSelfCheckingCircuit$Circuit;") (by decide +kernel)) (fun _ h9 => h9) rfl dX4_takeNormal_14 ?_
    refine lv_dup hx hb dX4_takeNormal_17 rfl ?_
    refine va_getN (D := D) (ci := 1) (v := .long nm) (C := RX1) (T := TX1) (N := 10) hx hb hts hi1 hown hK hP 1 rfl rfl 7 (by decide) (nf_X4_45 hE.2.1) (fun _ h9 => h9) rfl dX4_takeNormal_18 ?_
    refine lv_lconst (v := 1) hx hb dX4_takeNormal_21 (by decide) ?_
    refine lv_iload_n hx hb dX4_takeNormal_22 rfl (lv_at hl 1 rfl) ?_
    refine lv_lshl hx hb dX4_takeNormal_23 rfl ?_
    refine lv_lor hx hb dX4_takeNormal_24 ?_
    refine va_putN (D := D) (ci := 1) (v := .long (nm ||| ((1 : Int64) <<< ((nI v).toInt64 &&& 63)))) (ty := .long) (C := RX1) (T := TX1) (N := 10) hx hb hts hi1 tyX1 tyX1_ok nmX1 hown hK hP hD hS 1 rfl rfl 7 (by decide) (nf_X4_45 hE.2.1) (fun _ h9 => h9) rfl (by decide +kernel) rfl rfl (Nat.le_of_ble_eq_true rfl) dX4_takeNormal_25 (fun H locs hP hD hS => ?_)
    have hP : va_P D vwCl [(rd, .inr (4, [.ref tb, .ref a, yn, .int kc, .int (nI pz), .int es, .int rs])), (a, .inr (1, [.ref t, .ref f1, .ref f2, .ref on, .int (nI n), .int (nI N), .int (nI o), .long (nm ||| ((1 : Int64) <<< ((nI v).toInt64 &&& 63))), .int (nI cd), .int (nI wt)])), (t, .inl (g.2.1, 30, .inl ft)), (f1, .inl (g.2.1, 30, .inl fa)), (f2, .inl (g.2.1, 30, .inl fb)), (on, .inl (g.2.1, 6, .inl fo))] H := hP
    have hD : va_D A [(rd, .inr (4, [.ref tb, .ref a, yn, .int kc, .int (nI pz), .int es, .int rs])), (a, .inr (1, [.ref t, .ref f1, .ref f2, .ref on, .int (nI n), .int (nI N), .int (nI o), .long (nm ||| ((1 : Int64) <<< ((nI v).toInt64 &&& 63))), .int (nI cd), .int (nI wt)])), (t, .inl (g.2.1, 30, .inl ft)), (f1, .inl (g.2.1, 30, .inl fa)), (f2, .inl (g.2.1, 30, .inl fb)), (on, .inl (g.2.1, 6, .inl fo))] := hD
    refine lv_iconst (v := 0) hx hb dX4_takeNormal_28 (by decide) ?_
    have hP9 := hP.sub (ws' := [(rd, .inr (4, [.ref tb, .ref a, yn, .int kc, .int (nI pz), .int es, .int rs])), (a, .inr (1, [.ref t, .ref f1, .ref f2, .ref on, .int (nI n), .int (nI N), .int (nI o), .long (nm ||| ((1 : Int64) <<< ((nI v).toInt64 &&& 63))), .int (nI cd), .int (nI wt)])), (t, .inl (g.2.1, 30, .inl ft)), (f1, .inl (g.2.1, 30, .inl fa)), (f2, .inl (g.2.1, 30, .inl fb)), (on, .inl (g.2.1, 6, .inl fo))]) [0, 1, 2, 3, 4, 5] rfl
    have hD9 := hD.sub (ws' := [(rd, .inr (4, [.ref tb, .ref a, yn, .int kc, .int (nI pz), .int es, .int rs])), (a, .inr (1, [.ref t, .ref f1, .ref f2, .ref on, .int (nI n), .int (nI N), .int (nI o), .long (nm ||| ((1 : Int64) <<< ((nI v).toInt64 &&& 63))), .int (nI cd), .int (nI wt)])), (t, .inl (g.2.1, 30, .inl ft)), (f1, .inl (g.2.1, 30, .inl fa)), (f2, .inl (g.2.1, 30, .inl fb)), (on, .inl (g.2.1, 6, .inl fo))]) [0, 1, 2, 3, 4, 5] (by decide) rfl
    exact W.iret (v := 0) hx hb hr (fun tt ht hW => ⟨⟨_, (nm ||| ((1 : Int64) <<< ((nI v).toInt64 &&& 63))), rfl, tW_y hV (bd_t c_3), by rw [ht]; exact hP9, hD9⟩, hS.F ht⟩) hS.2.2 dX4_takeNormal_29
  · have c_3h : bI (decide (v < 2 ^ n)) = (0 : Int32) := c_3
    refine lv_iconst (v := 3) hx hb dX4_takeNormal_11 (by decide) ?_
    have hP9 := hP.sub (ws' := [(rd, .inr (4, [.ref tb, .ref a, yn, .int kc, .int (nI pz), .int es, .int rs])), (a, .inr (1, [.ref t, .ref f1, .ref f2, .ref on, .int (nI n), .int (nI N), .int (nI o), .long nm, .int (nI cd), .int (nI wt)])), (t, .inl (g.2.1, 30, .inl ft)), (f1, .inl (g.2.1, 30, .inl fa)), (f2, .inl (g.2.1, 30, .inl fb)), (on, .inl (g.2.1, 6, .inl fo))]) [0, 1, 2, 3, 4, 5] rfl
    have hD9 := hD.sub (ws' := [(rd, .inr (4, [.ref tb, .ref a, yn, .int kc, .int (nI pz), .int es, .int rs])), (a, .inr (1, [.ref t, .ref f1, .ref f2, .ref on, .int (nI n), .int (nI N), .int (nI o), .long nm, .int (nI cd), .int (nI wt)])), (t, .inl (g.2.1, 30, .inl ft)), (f1, .inl (g.2.1, 30, .inl fa)), (f2, .inl (g.2.1, 30, .inl fb)), (on, .inl (g.2.1, 6, .inl fo))]) [0, 1, 2, 3, 4, 5] (by decide) rfl
    exact W.iret (v := 3) hx hb hr (fun tt ht hW => ⟨⟨_, nm, rfl, tW_3 hV (bd_f c_3), by rw [ht]; exact hP9, hD9⟩, hS.F ht⟩) hS.2.2 dX4_takeNormal_12
theorem nI_n5 {v : Nat} (h : ¬ (5 : Int32) < nI v) (hv : v < 2 ^ 31) : v ≤ 5 := by
  have := mt (nI_ltI (a := 5) (b := v) (by decide) hv).mpr h; omega
theorem kk_3 {k : Nat} (h23 : k = 2 ∨ k = 3) (h : nI k - 1 = (2 : Int32)) : k = 3 := by
  rcases h23 with rfl | rfl
  · exact absurd h (by decide)
  · rfl
theorem kk_e {k : Nat} (h : k = 3) : nI k - 1 = (2 : Int32) := by subst h; decide
set_option maxHeartbeats 4000000 in
set_option maxRecDepth 100000 in
theorem c4_takeGate (l : Launch) (D : va_G) (g : hk_G) (ti : Nat) (sz : Nat) (rd : Nat) (tb : Nat) (yn : Value) (kc : Int32) (pz : Nat) (es : Int32) (rs : Int32) (a : Nat) (t : Nat) (f1 : Nat) (f2 : Nat) (on : Nat) (ft : Nat → Int32) (fa : Nat → Int32) (fb : Nat → Int32) (fo : Nat → Int32) (n : Nat) (N : Nat) (o : Nat) (nm : Int64) (cd : Nat) (wt : Nat) (ty : Nat → Nat) (pa : Nat → Nat) (pb : Nat → Nat) (vo : Nat → Nat) (t1 : Nat) (a1 : Nat) (b1 : Nat) (x2 : Int32) (kk : Nat) (hV : CR n N o ty pa pb vo nm ft fa fb fo) (h23 : kk = 2 ∨ kk = 3) (ht1 : t1 < 1000) (ha1 : a1 < 1000) (hb3 : kk = 3 → x2 = nI b1 ∧ b1 < 1000) : Met l yX4_takeGate wsX4_takeGate ({ frames := 2, cells := 0, slots := 0, locals := 41 }) (va_Pc [.ref rd, .int (nI t1), .int (nI a1), .int x2] (hk_In D g ti [(rd, .inr (4, [.ref tb, .ref a, yn, .int (nI kk), .int (nI pz), .int es, .int rs])), (a, .inr (1, [.ref t, .ref f1, .ref f2, .ref on, .int (nI n), .int (nI N), .int (nI o), .long nm, .int (nI cd), .int (nI wt)])), (t, .inl (g.2.1, 30, .inl ft)), (f1, .inl (g.2.1, 30, .inl fa)), (f2, .inl (g.2.1, 30, .inl fb)), (on, .inl (g.2.1, 6, .inl fo))] sz)) (va_Qi (S := Nat × (Nat → Int32) × (Nat → Int32) × (Nat → Int32)) (fun r u => tP (tG kk t1 a1 b1 (n, N, o, ty, pa, pb, vo, nm)) r n u.1 o nm u.2.1 u.2.2.1 u.2.2.2 fo) (fun u => hk_Out D (va_A [(rd, .inr (4, [.ref tb, .ref a, yn, .int (nI kk), .int (nI pz), .int es, .int rs])), (a, .inr (1, [.ref t, .ref f1, .ref f2, .ref on, .int (nI n), .int (nI N), .int (nI o), .long nm, .int (nI cd), .int (nI wt)])), (t, .inl (g.2.1, 30, .inl ft)), (f1, .inl (g.2.1, 30, .inl fa)), (f2, .inl (g.2.1, 30, .inl fb)), (on, .inl (g.2.1, 6, .inl fo))] sz) (match u with | (N', f1', f2', f3') => [(rd, .inr (4, [.ref tb, .ref a, yn, .int (nI kk), .int (nI pz), .int es, .int rs])), (a, .inr (1, [.ref t, .ref f1, .ref f2, .ref on, .int (nI n), .int (nI N'), .int (nI o), .long nm, .int (nI cd), .int (nI wt)])), (t, .inl (g.2.1, 30, .inl f1')), (f1, .inl (g.2.1, 30, .inl f2')), (f2, .inl (g.2.1, 30, .inl f3')), (on, .inl (g.2.1, 6, .inl fo))])) (va_A [(rd, .inr (4, [.ref tb, .ref a, yn, .int (nI kk), .int (nI pz), .int es, .int rs])), (a, .inr (1, [.ref t, .ref f1, .ref f2, .ref on, .int (nI n), .int (nI N), .int (nI o), .long nm, .int (nI cd), .int (nI wt)])), (t, .inl (g.2.1, 30, .inl ft)), (f1, .inl (g.2.1, 30, .inl fa)), (f2, .inl (g.2.1, 30, .inl fb)), (on, .inl (g.2.1, 6, .inl fo))] sz)) 0 0 (va_A [(rd, .inr (4, [.ref tb, .ref a, yn, .int (nI kk), .int (nI pz), .int es, .int rs])), (a, .inr (1, [.ref t, .ref f1, .ref f2, .ref on, .int (nI n), .int (nI N), .int (nI o), .long nm, .int (nI cd), .int (nI wt)])), (t, .inl (g.2.1, 30, .inl ft)), (f1, .inl (g.2.1, 30, .inl fa)), (f2, .inl (g.2.1, 30, .inl fb)), (on, .inl (g.2.1, 6, .inl fo))] sz) := by
  refine Met.ofW (cc := cX4_takeGate) (maxL := 5) (ret := (some .int)) (by decide) rfl ?_
  intro p e s m args below meth c s₁ Bd hml hv
  obtain ⟨rfl, hsz, hP, hD0, hE⟩ := hv
  have hx := Bd.exec
  have hb := Bd.bytes
  have hr := Bd.returns
  have hts := atoms_spec (ws := wsX4_takeGate) Bd.pre
  have hown : s.vm.findClass RX4 = some m.cls := findClass_of_methodNamed Bd.named
  have hlocks := Bd.notSynchronized
  have hK := hE.1
  have hi4 : ∀ w ∈ wsX40, w ∈ wsX4_takeGate := fun w h => List.mem_cons_of_mem _ (List.mem_append_left _ (List.mem_append_right _ h))
  subst hsz
  have hD := hD0.self (sz := s.heap.size)
  generalize hAe : va_A [(rd, .inr (4, [.ref tb, .ref a, yn, .int (nI kk), .int (nI pz), .int es, .int rs])), (a, .inr (1, [.ref t, .ref f1, .ref f2, .ref on, .int (nI n), .int (nI N), .int (nI o), .long nm, .int (nI cd), .int (nI wt)])), (t, .inl (g.2.1, 30, .inl ft)), (f1, .inl (g.2.1, 30, .inl fa)), (f2, .inl (g.2.1, 30, .inl fb)), (on, .inl (g.2.1, 6, .inl fo))] s.heap.size = A at hD hE ⊢
  have hA : ∀ q : Nat, s.heap.size ≤ q → A q := fun q h => by rw [← hAe]; exact Or.inr h
  have hS : va_S A s.heap s.heap [] := va_S.rf
  have hl := lv_entry ([.ref rd, .int (nI t1), .int (nI a1), .int x2]) (n := 5) (Nat.le_of_ble_eq_true rfl)
  rw [lg_entry_eq]
  generalize (lg_sl ([.ref rd, .int (nI t1), .int (nI a1), .int x2]) ++ List.replicate (5 - (lg_sl ([.ref rd, .int (nI t1), .int (nI a1), .int x2])).length) Slot.unset).toArray = ls at hl ⊢
  have hl : lv_has ls 5 [(0, .ref rd), (1, .int (nI t1)), (2, .int (nI a1)), (3, .int x2)] := hl
  refine lv_aload_n hx hb dX4_takeGate_0 rfl (lv_at hl 0 rfl) ?_
  refine va_get (D := D) (ci := 4) (v := .int (nI kk)) (C := RX4) (T := TX4) (N := 7) hx hb hts hi4 hown hK hP 0 rfl rfl 3 (by decide) (hts (.fieldLink RX4 65 "SelfCheckingCircuit$TextReader" "count" "I") (by decide +kernel)) (fun _ h9 => h9) rfl dX4_takeGate_1 ?_
  refine lv_iconst (v := 1) hx hb dX4_takeGate_4 (by decide) ?_
  refine lv_isub hx hb dX4_takeGate_5 ?_
  refine lv_istore (lv' := [(4, .int (nI kk - (1 : Int32))), (0, .ref rd), (1, .int (nI t1)), (2, .int (nI a1)), (3, .int x2)]) hx hb dX4_takeGate_6 hl (by decide) rfl (fun ls hl => ?_)
  refine lv_iload_n hx hb dX4_takeGate_8 rfl (lv_at hl 2 rfl) ?_
  refine lv_iconst (v := 5) hx hb dX4_takeGate_9 (by decide) ?_
  refine lv_icmp_gt (tgt := 33) hx hb dX4_takeGate_10 (by decide) (fun c_1 => ?_) (fun c_1 => ?_)
  · have c_1h : (5 : Int32) < nI t1 := c_1
    refine lv_iconst (v := 3) hx hb dX4_takeGate_33 (by decide) ?_
    have hP9 := hP.sub (ws' := [(rd, .inr (4, [.ref tb, .ref a, yn, .int (nI kk), .int (nI pz), .int es, .int rs])), (a, .inr (1, [.ref t, .ref f1, .ref f2, .ref on, .int (nI n), .int (nI N), .int (nI o), .long nm, .int (nI cd), .int (nI wt)])), (t, .inl (g.2.1, 30, .inl ft)), (f1, .inl (g.2.1, 30, .inl fa)), (f2, .inl (g.2.1, 30, .inl fb)), (on, .inl (g.2.1, 6, .inl fo))]) [0, 1, 2, 3, 4, 5] rfl
    have hD9 := hD.sub (ws' := [(rd, .inr (4, [.ref tb, .ref a, yn, .int (nI kk), .int (nI pz), .int es, .int rs])), (a, .inr (1, [.ref t, .ref f1, .ref f2, .ref on, .int (nI n), .int (nI N), .int (nI o), .long nm, .int (nI cd), .int (nI wt)])), (t, .inl (g.2.1, 30, .inl ft)), (f1, .inl (g.2.1, 30, .inl fa)), (f2, .inl (g.2.1, 30, .inl fb)), (on, .inl (g.2.1, 6, .inl fo))]) [0, 1, 2, 3, 4, 5] (by decide) rfl
    exact W.iret (v := 3) hx hb hr (fun tt ht hW => ⟨⟨_, (N, ft, fa, fb), rfl, tG_3 hV (fun z => absurd ((nI_ltI (a := 5) (by decide) (by omega)).mp c_1) (by omega)), by rw [ht]; exact hP9, hD9⟩, hS.F ht⟩) hS.2.2 dX4_takeGate_34
  · have c_1h : ¬ (5 : Int32) < nI t1 := c_1
    refine lv_iload_n hx hb dX4_takeGate_13 rfl (lv_at hl 2 rfl) ?_
    refine hk_csi (va_runSN (As := [.int (nI t1)]) (rest := []) ⟨hx, hb, hml, hown, hts⟩ (c5_operandsOfType l D g ti (nI t1) ) ⟨va_cnB 1 hts gX4_takeGate_X5_operandsOfType_n93 rfl rfl rfl (nm_X4_93 hE.2.1) (hts (.initialized RX5) (by decide +kernel)) (by decide +kernel) ⟨Nat.le_of_ble_eq_true rfl, Nat.le_of_ble_eq_true rfl⟩, hts (.static yX5_operandsOfType) (by decide +kernel), trivial⟩ (hk_roS hE hP hS [] rfl) rfl rfl hl.1 rfl (lv_room (Nat.le_of_ble_eq_true rfl)) dX4_takeGate_14 ⟨Nat.zero_le _, Nat.zero_le _⟩) (fun r_2 hr_3 => ?_)
    subst hr_3
    refine lv_iload hx hb dX4_takeGate_17 (lv_at hl 0 rfl) ?_
    refine lv_icmp_ne (tgt := 33) hx hb dX4_takeGate_19 (by decide) (fun c_4 => ?_) (fun c_4 => ?_)
    · have c_4h : ¬ (if (nI t1) = 6 then 0 else if (nI t1) = 5 then 1 else 2) = (nI kk - (1 : Int32)) := c_4
      refine lv_iconst (v := 3) hx hb dX4_takeGate_33 (by decide) ?_
      have hP9 := hP.sub (ws' := [(rd, .inr (4, [.ref tb, .ref a, yn, .int (nI kk), .int (nI pz), .int es, .int rs])), (a, .inr (1, [.ref t, .ref f1, .ref f2, .ref on, .int (nI n), .int (nI N), .int (nI o), .long nm, .int (nI cd), .int (nI wt)])), (t, .inl (g.2.1, 30, .inl ft)), (f1, .inl (g.2.1, 30, .inl fa)), (f2, .inl (g.2.1, 30, .inl fb)), (on, .inl (g.2.1, 6, .inl fo))]) [0, 1, 2, 3, 4, 5] rfl
      have hD9 := hD.sub (ws' := [(rd, .inr (4, [.ref tb, .ref a, yn, .int (nI kk), .int (nI pz), .int es, .int rs])), (a, .inr (1, [.ref t, .ref f1, .ref f2, .ref on, .int (nI n), .int (nI N), .int (nI o), .long nm, .int (nI cd), .int (nI wt)])), (t, .inl (g.2.1, 30, .inl ft)), (f1, .inl (g.2.1, 30, .inl fa)), (f2, .inl (g.2.1, 30, .inl fb)), (on, .inl (g.2.1, 6, .inl fo))]) [0, 1, 2, 3, 4, 5] (by decide) rfl
      exact W.iret (v := 3) hx hb hr (fun tt ht hW => ⟨⟨_, (N, ft, fa, fb), rfl, tG_3 hV (fun z => c_4 ((op_k z.1 h23).mpr z.2.1)), by rw [ht]; exact hP9, hD9⟩, hS.F ht⟩) hS.2.2 dX4_takeGate_34
    · have c_4h : (if (nI t1) = 6 then 0 else if (nI t1) = 5 then 1 else 2) = (nI kk - (1 : Int32)) := c_4
      refine lv_aload_n hx hb dX4_takeGate_22 rfl (lv_at hl 1 rfl) ?_
      refine va_get (D := D) (ci := 4) (v := .ref a) (C := RX4) (T := TX4) (N := 7) hx hb hts hi4 hown hK hP 0 rfl rfl 1 (by decide) (hts (.fieldLink RX4 12 "SelfCheckingCircuit$TextReader" "draft" "LSelfCheckingCircuit$Circuit;") (by decide +kernel)) (fun _ h9 => h9) rfl dX4_takeGate_23 ?_
      refine lv_iload_n hx hb dX4_takeGate_26 rfl (lv_at hl 3 rfl) ?_
      refine hk_csi (va_runVN (As := [.int (nI a1)]) (rest := []) ⟨hx, hb, hml, hown, hts⟩ (c1_hasNode l D g ti a (.ref t) (.ref f1) (.ref f2) (.ref on) (nI n) (nI N) (nI o) nm (nI cd) (nI wt) (nI a1) ) ⟨va_cnB 1 hts gX4_takeGate_X1_hasNode_n96 rfl rfl rfl (nm_X4_96 hE.2.1) (hts (.initialized RX1) (by decide +kernel)) (by decide +kernel) ⟨Nat.le_of_ble_eq_true rfl, Nat.le_of_ble_eq_true rfl⟩, hts (.instanceMethod yX1_hasNode) (by decide +kernel), hts (.selects RX1 yX1_hasNode yX1_hasNode) (by decide +kernel)⟩ (hk_roV hE hP hS 1 rfl rfl [1] rfl rfl) rfl rfl hl.1 rfl (lv_room (Nat.le_of_ble_eq_true rfl)) dX4_takeGate_27 ⟨Nat.zero_le _, Nat.zero_le _⟩) (fun r_5 hr_6 => ?_)
      subst hr_6
      refine hk_ti (bI (decide (a1 < N))) (by rw [hn_eq, hn_v (by omega) (by have := hV.1; omega)]) ?_
      refine lv_if_ne (tgt := 35) hx hb dX4_takeGate_30 (by decide) (fun c_7 => ?_) (fun c_7 => ?_)
      · have c_7h : ¬ bI (decide (a1 < N)) = (0 : Int32) := c_7
        refine lv_iload hx hb dX4_takeGate_35 (lv_at hl 0 rfl) ?_
        refine lv_iconst (v := 2) hx hb dX4_takeGate_37 (by decide) ?_
        refine lv_icmp_ne (tgt := 54) hx hb dX4_takeGate_38 (by decide) (fun c_8 => ?_) (fun c_8 => ?_)
        · have c_8h : ¬ (nI kk - (1 : Int32)) = (2 : Int32) := c_8
          refine lv_aload_n hx hb dX4_takeGate_54 rfl (lv_at hl 1 rfl) ?_
          refine va_get (D := D) (ci := 4) (v := .ref a) (C := RX4) (T := TX4) (N := 7) hx hb hts hi4 hown hK hP 0 rfl rfl 1 (by decide) (hts (.fieldLink RX4 12 "SelfCheckingCircuit$TextReader" "draft" "LSelfCheckingCircuit$Circuit;") (by decide +kernel)) (fun _ h9 => h9) rfl dX4_takeGate_55 ?_
          refine lv_iconst (v := 1) hx hb dX4_takeGate_58 (by decide) ?_
          refine hk_csi (va_runVN (As := [.int 1]) (rest := []) ⟨hx, hb, hml, hown, hts⟩ (c1_hasRoomFor l D g ti a (.ref t) (.ref f1) (.ref f2) (.ref on) (nI n) (nI N) (nI o) nm (nI cd) (nI wt) 1 ) ⟨va_cnB 1 hts gX4_takeGate_X1_hasRoomFor_n99 rfl rfl rfl (nm_X4_99 hE.2.1) (hts (.initialized RX1) (by decide +kernel)) (by decide +kernel) ⟨Nat.le_of_ble_eq_true rfl, Nat.le_of_ble_eq_true rfl⟩, hts (.instanceMethod yX1_hasRoomFor) (by decide +kernel), hts (.selects RX1 yX1_hasRoomFor yX1_hasRoomFor) (by decide +kernel)⟩ (hk_roV hE hP hS 1 rfl rfl [1] rfl rfl) rfl rfl hl.1 rfl (lv_room (Nat.le_of_ble_eq_true rfl)) dX4_takeGate_59 ⟨Nat.zero_le _, Nat.zero_le _⟩) (fun r_9 hr_10 => ?_)
          subst hr_10
          refine hk_ti (bI (decide (N + 1 ≤ n + 24))) (hn_rm (k := 1) hV.1.2.1 (by have := hV.1; omega) (by decide)) ?_
          refine lv_if_ne (tgt := 67) hx hb dX4_takeGate_62 (by decide) (fun c_11 => ?_) (fun c_11 => ?_)
          · have c_11h : ¬ bI (decide (N + 1 ≤ n + 24)) = (0 : Int32) := c_11
            refine lv_aload_n hx hb dX4_takeGate_67 rfl (lv_at hl 1 rfl) ?_
            refine va_get (D := D) (ci := 4) (v := .ref a) (C := RX4) (T := TX4) (N := 7) hx hb hts hi4 hown hK hP 0 rfl rfl 1 (by decide) (hts (.fieldLink RX4 12 "SelfCheckingCircuit$TextReader" "draft" "LSelfCheckingCircuit$Circuit;") (by decide +kernel)) (fun _ h9 => h9) rfl dX4_takeGate_68 ?_
            refine lv_iload_n hx hb dX4_takeGate_71 rfl (lv_at hl 2 rfl) ?_
            refine lv_iload_n hx hb dX4_takeGate_72 rfl (lv_at hl 3 rfl) ?_
            refine lv_iload_n hx hb dX4_takeGate_73 rfl (lv_at hl 4 rfl) ?_
            refine hk_cmi (wr := [(rd, .inr (4, [.ref tb, .ref a, yn, .int (nI kk), .int (nI pz), .int es, .int rs]))]) (va_runVN (As := [.int (nI t1), .int (nI a1), .int x2]) (rest := []) ⟨hx, hb, hml, hown, hts⟩ (c1_putGate l D g ti _ a t f1 f2 on ft fa fb fo n N o nm cd wt (nI t1) (nI a1) x2 (by have := bd_t c_11; have := hV.1; omega)) ⟨va_cnB 3 hts gX4_takeGate_X1_putGate_n102 rfl rfl rfl (nm_X4_102 hE.2.1) (hts (.initialized RX1) (by decide +kernel)) (by decide +kernel) ⟨Nat.le_of_ble_eq_true rfl, Nat.le_of_ble_eq_true rfl⟩, hts (.instanceMethod yX1_putGate) (by decide +kernel), hts (.selects RX1 yX1_putGate yX1_putGate) (by decide +kernel)⟩ (hk_inV hE hP hD hS hA 1 rfl rfl [1, 2, 3, 4, 5] (by decide) rfl rfl) rfl rfl hl.1 rfl (lv_room (Nat.le_of_ble_eq_true rfl)) dX4_takeGate_74 ⟨Nat.zero_le _, Nat.zero_le _⟩) hP hD hS hA [1, 2, 3, 4, 5] [0] rfl rfl (by decide) (by decide) (fun pg _u H locs hr_12 hP hD hS => ?_)
            try dsimp only at hr_12
            have hP : va_P D vwCl [(rd, .inr (4, [.ref tb, .ref a, yn, .int (nI kk), .int (nI pz), .int es, .int rs])), (a, .inr (1, [.ref t, .ref f1, .ref f2, .ref on, .int (nI n), .int (nI (N + 1)), .int (nI o), .long nm, .int (nI cd), .int (nI wt)])), (t, .inl (g.2.1, 30, .inl (upd ft N (nI t1)))), (f1, .inl (g.2.1, 30, .inl (upd fa N (nI a1)))), (f2, .inl (g.2.1, 30, .inl (upd fb N (if (nI t1) = 5 then (nI a1) else x2)))), (on, .inl (g.2.1, 6, .inl fo))] H := hP
            have hD : va_D A [(rd, .inr (4, [.ref tb, .ref a, yn, .int (nI kk), .int (nI pz), .int es, .int rs])), (a, .inr (1, [.ref t, .ref f1, .ref f2, .ref on, .int (nI n), .int (nI (N + 1)), .int (nI o), .long nm, .int (nI cd), .int (nI wt)])), (t, .inl (g.2.1, 30, .inl (upd ft N (nI t1)))), (f1, .inl (g.2.1, 30, .inl (upd fa N (nI a1)))), (f2, .inl (g.2.1, 30, .inl (upd fb N (if (nI t1) = 5 then (nI a1) else x2)))), (on, .inl (g.2.1, 6, .inl fo))] := hD
            refine lv_pop hx hb dX4_takeGate_77 rfl ?_
            refine lv_iconst (v := 0) hx hb dX4_takeGate_78 (by decide) ?_
            have hP9 := hP.sub (ws' := [(rd, .inr (4, [.ref tb, .ref a, yn, .int (nI kk), .int (nI pz), .int es, .int rs])), (a, .inr (1, [.ref t, .ref f1, .ref f2, .ref on, .int (nI n), .int (nI (N + 1)), .int (nI o), .long nm, .int (nI cd), .int (nI wt)])), (t, .inl (g.2.1, 30, .inl (upd ft N (nI t1)))), (f1, .inl (g.2.1, 30, .inl (upd fa N (nI a1)))), (f2, .inl (g.2.1, 30, .inl (upd fb N (if nI t1 = 5 then nI a1 else x2)))), (on, .inl (g.2.1, 6, .inl fo))]) [0, 1, 2, 3, 4, 5] rfl
            have hD9 := hD.sub (ws' := [(rd, .inr (4, [.ref tb, .ref a, yn, .int (nI kk), .int (nI pz), .int es, .int rs])), (a, .inr (1, [.ref t, .ref f1, .ref f2, .ref on, .int (nI n), .int (nI (N + 1)), .int (nI o), .long nm, .int (nI cd), .int (nI wt)])), (t, .inl (g.2.1, 30, .inl (upd ft N (nI t1)))), (f1, .inl (g.2.1, 30, .inl (upd fa N (nI a1)))), (f2, .inl (g.2.1, 30, .inl (upd fb N (if nI t1 = 5 then nI a1 else x2)))), (on, .inl (g.2.1, 6, .inl fo))]) [0, 1, 2, 3, 4, 5] (by decide) rfl
            exact W.iret (v := 0) hx hb hr (fun tt ht hW => ⟨⟨_, ((N + 1), (upd ft N (nI t1)), (upd fa N (nI a1)), (upd fb N (if nI t1 = 5 then nI a1 else x2))), rfl, tG_y hV ⟨(show t1 ≤ 5 by have := nI_n5 c_1 (by omega); omega), ((op_k (show t1 ≤ 5 by have := nI_n5 c_1 (by omega); omega) h23).mp c_4), (bd_t c_7), (fun q => absurd (kk_e q) c_8)⟩ (bd_t c_11) h23 (fun q => (hb3 q).1), by rw [ht]; exact hP9, hD9⟩, hS.F ht⟩) hS.2.2 dX4_takeGate_79
          · have c_11h : bI (decide (N + 1 ≤ n + 24)) = (0 : Int32) := c_11
            refine lv_iconst (v := 4) hx hb dX4_takeGate_65 (by decide) ?_
            have hP9 := hP.sub (ws' := [(rd, .inr (4, [.ref tb, .ref a, yn, .int (nI kk), .int (nI pz), .int es, .int rs])), (a, .inr (1, [.ref t, .ref f1, .ref f2, .ref on, .int (nI n), .int (nI N), .int (nI o), .long nm, .int (nI cd), .int (nI wt)])), (t, .inl (g.2.1, 30, .inl ft)), (f1, .inl (g.2.1, 30, .inl fa)), (f2, .inl (g.2.1, 30, .inl fb)), (on, .inl (g.2.1, 6, .inl fo))]) [0, 1, 2, 3, 4, 5] rfl
            have hD9 := hD.sub (ws' := [(rd, .inr (4, [.ref tb, .ref a, yn, .int (nI kk), .int (nI pz), .int es, .int rs])), (a, .inr (1, [.ref t, .ref f1, .ref f2, .ref on, .int (nI n), .int (nI N), .int (nI o), .long nm, .int (nI cd), .int (nI wt)])), (t, .inl (g.2.1, 30, .inl ft)), (f1, .inl (g.2.1, 30, .inl fa)), (f2, .inl (g.2.1, 30, .inl fb)), (on, .inl (g.2.1, 6, .inl fo))]) [0, 1, 2, 3, 4, 5] (by decide) rfl
            exact W.iret (v := 4) hx hb hr (fun tt ht hW => ⟨⟨_, (N, ft, fa, fb), rfl, tG_4 hV ⟨(show t1 ≤ 5 by have := nI_n5 c_1 (by omega); omega), ((op_k (show t1 ≤ 5 by have := nI_n5 c_1 (by omega); omega) h23).mp c_4), (bd_t c_7), (fun q => absurd (kk_e q) c_8)⟩ (bd_f c_11), by rw [ht]; exact hP9, hD9⟩, hS.F ht⟩) hS.2.2 dX4_takeGate_66
        · have c_8h : (nI kk - (1 : Int32)) = (2 : Int32) := c_8
          refine lv_aload_n hx hb dX4_takeGate_41 rfl (lv_at hl 1 rfl) ?_
          refine va_get (D := D) (ci := 4) (v := .ref a) (C := RX4) (T := TX4) (N := 7) hx hb hts hi4 hown hK hP 0 rfl rfl 1 (by decide) (hts (.fieldLink RX4 12 "SelfCheckingCircuit$TextReader" "draft" "LSelfCheckingCircuit$Circuit;") (by decide +kernel)) (fun _ h9 => h9) rfl dX4_takeGate_42 ?_
          refine lv_iload_n hx hb dX4_takeGate_45 rfl (lv_at hl 4 rfl) ?_
          refine hk_csi (va_runVN (As := [.int x2]) (rest := []) ⟨hx, hb, hml, hown, hts⟩ (c1_hasNode l D g ti a (.ref t) (.ref f1) (.ref f2) (.ref on) (nI n) (nI N) (nI o) nm (nI cd) (nI wt) x2 ) ⟨va_cnB 1 hts gX4_takeGate_X1_hasNode_n96 rfl rfl rfl (nm_X4_96 hE.2.1) (hts (.initialized RX1) (by decide +kernel)) (by decide +kernel) ⟨Nat.le_of_ble_eq_true rfl, Nat.le_of_ble_eq_true rfl⟩, hts (.instanceMethod yX1_hasNode) (by decide +kernel), hts (.selects RX1 yX1_hasNode yX1_hasNode) (by decide +kernel)⟩ (hk_roV hE hP hS 1 rfl rfl [1] rfl rfl) rfl rfl hl.1 rfl (lv_room (Nat.le_of_ble_eq_true rfl)) dX4_takeGate_46 ⟨Nat.zero_le _, Nat.zero_le _⟩) (fun r_13 hr_14 => ?_)
          subst hr_14
          refine hk_ti (bI (decide (b1 < N))) (by rw [(hb3 (kk_3 h23 c_8)).1, hn_eq, hn_v (by have := (hb3 (kk_3 h23 c_8)).2; omega) (by have := hV.1; omega)]) ?_
          refine lv_if_ne (tgt := 54) hx hb dX4_takeGate_49 (by decide) (fun c_15 => ?_) (fun c_15 => ?_)
          · have c_15h : ¬ bI (decide (b1 < N)) = (0 : Int32) := c_15
            refine lv_aload_n hx hb dX4_takeGate_54 rfl (lv_at hl 1 rfl) ?_
            refine va_get (D := D) (ci := 4) (v := .ref a) (C := RX4) (T := TX4) (N := 7) hx hb hts hi4 hown hK hP 0 rfl rfl 1 (by decide) (hts (.fieldLink RX4 12 "SelfCheckingCircuit$TextReader" "draft" "LSelfCheckingCircuit$Circuit;") (by decide +kernel)) (fun _ h9 => h9) rfl dX4_takeGate_55 ?_
            refine lv_iconst (v := 1) hx hb dX4_takeGate_58 (by decide) ?_
            refine hk_csi (va_runVN (As := [.int 1]) (rest := []) ⟨hx, hb, hml, hown, hts⟩ (c1_hasRoomFor l D g ti a (.ref t) (.ref f1) (.ref f2) (.ref on) (nI n) (nI N) (nI o) nm (nI cd) (nI wt) 1 ) ⟨va_cnB 1 hts gX4_takeGate_X1_hasRoomFor_n99 rfl rfl rfl (nm_X4_99 hE.2.1) (hts (.initialized RX1) (by decide +kernel)) (by decide +kernel) ⟨Nat.le_of_ble_eq_true rfl, Nat.le_of_ble_eq_true rfl⟩, hts (.instanceMethod yX1_hasRoomFor) (by decide +kernel), hts (.selects RX1 yX1_hasRoomFor yX1_hasRoomFor) (by decide +kernel)⟩ (hk_roV hE hP hS 1 rfl rfl [1] rfl rfl) rfl rfl hl.1 rfl (lv_room (Nat.le_of_ble_eq_true rfl)) dX4_takeGate_59 ⟨Nat.zero_le _, Nat.zero_le _⟩) (fun r_16 hr_17 => ?_)
            subst hr_17
            refine hk_ti (bI (decide (N + 1 ≤ n + 24))) (hn_rm (k := 1) hV.1.2.1 (by have := hV.1; omega) (by decide)) ?_
            refine lv_if_ne (tgt := 67) hx hb dX4_takeGate_62 (by decide) (fun c_18 => ?_) (fun c_18 => ?_)
            · have c_18h : ¬ bI (decide (N + 1 ≤ n + 24)) = (0 : Int32) := c_18
              refine lv_aload_n hx hb dX4_takeGate_67 rfl (lv_at hl 1 rfl) ?_
              refine va_get (D := D) (ci := 4) (v := .ref a) (C := RX4) (T := TX4) (N := 7) hx hb hts hi4 hown hK hP 0 rfl rfl 1 (by decide) (hts (.fieldLink RX4 12 "SelfCheckingCircuit$TextReader" "draft" "LSelfCheckingCircuit$Circuit;") (by decide +kernel)) (fun _ h9 => h9) rfl dX4_takeGate_68 ?_
              refine lv_iload_n hx hb dX4_takeGate_71 rfl (lv_at hl 2 rfl) ?_
              refine lv_iload_n hx hb dX4_takeGate_72 rfl (lv_at hl 3 rfl) ?_
              refine lv_iload_n hx hb dX4_takeGate_73 rfl (lv_at hl 4 rfl) ?_
              refine hk_cmi (wr := [(rd, .inr (4, [.ref tb, .ref a, yn, .int (nI kk), .int (nI pz), .int es, .int rs]))]) (va_runVN (As := [.int (nI t1), .int (nI a1), .int x2]) (rest := []) ⟨hx, hb, hml, hown, hts⟩ (c1_putGate l D g ti _ a t f1 f2 on ft fa fb fo n N o nm cd wt (nI t1) (nI a1) x2 (by have := bd_t c_18; have := hV.1; omega)) ⟨va_cnB 3 hts gX4_takeGate_X1_putGate_n102 rfl rfl rfl (nm_X4_102 hE.2.1) (hts (.initialized RX1) (by decide +kernel)) (by decide +kernel) ⟨Nat.le_of_ble_eq_true rfl, Nat.le_of_ble_eq_true rfl⟩, hts (.instanceMethod yX1_putGate) (by decide +kernel), hts (.selects RX1 yX1_putGate yX1_putGate) (by decide +kernel)⟩ (hk_inV hE hP hD hS hA 1 rfl rfl [1, 2, 3, 4, 5] (by decide) rfl rfl) rfl rfl hl.1 rfl (lv_room (Nat.le_of_ble_eq_true rfl)) dX4_takeGate_74 ⟨Nat.zero_le _, Nat.zero_le _⟩) hP hD hS hA [1, 2, 3, 4, 5] [0] rfl rfl (by decide) (by decide) (fun pg _u H locs hr_19 hP hD hS => ?_)
              try dsimp only at hr_19
              have hP : va_P D vwCl [(rd, .inr (4, [.ref tb, .ref a, yn, .int (nI kk), .int (nI pz), .int es, .int rs])), (a, .inr (1, [.ref t, .ref f1, .ref f2, .ref on, .int (nI n), .int (nI (N + 1)), .int (nI o), .long nm, .int (nI cd), .int (nI wt)])), (t, .inl (g.2.1, 30, .inl (upd ft N (nI t1)))), (f1, .inl (g.2.1, 30, .inl (upd fa N (nI a1)))), (f2, .inl (g.2.1, 30, .inl (upd fb N (if (nI t1) = 5 then (nI a1) else x2)))), (on, .inl (g.2.1, 6, .inl fo))] H := hP
              have hD : va_D A [(rd, .inr (4, [.ref tb, .ref a, yn, .int (nI kk), .int (nI pz), .int es, .int rs])), (a, .inr (1, [.ref t, .ref f1, .ref f2, .ref on, .int (nI n), .int (nI (N + 1)), .int (nI o), .long nm, .int (nI cd), .int (nI wt)])), (t, .inl (g.2.1, 30, .inl (upd ft N (nI t1)))), (f1, .inl (g.2.1, 30, .inl (upd fa N (nI a1)))), (f2, .inl (g.2.1, 30, .inl (upd fb N (if (nI t1) = 5 then (nI a1) else x2)))), (on, .inl (g.2.1, 6, .inl fo))] := hD
              refine lv_pop hx hb dX4_takeGate_77 rfl ?_
              refine lv_iconst (v := 0) hx hb dX4_takeGate_78 (by decide) ?_
              have hP9 := hP.sub (ws' := [(rd, .inr (4, [.ref tb, .ref a, yn, .int (nI kk), .int (nI pz), .int es, .int rs])), (a, .inr (1, [.ref t, .ref f1, .ref f2, .ref on, .int (nI n), .int (nI (N + 1)), .int (nI o), .long nm, .int (nI cd), .int (nI wt)])), (t, .inl (g.2.1, 30, .inl (upd ft N (nI t1)))), (f1, .inl (g.2.1, 30, .inl (upd fa N (nI a1)))), (f2, .inl (g.2.1, 30, .inl (upd fb N (if nI t1 = 5 then nI a1 else x2)))), (on, .inl (g.2.1, 6, .inl fo))]) [0, 1, 2, 3, 4, 5] rfl
              have hD9 := hD.sub (ws' := [(rd, .inr (4, [.ref tb, .ref a, yn, .int (nI kk), .int (nI pz), .int es, .int rs])), (a, .inr (1, [.ref t, .ref f1, .ref f2, .ref on, .int (nI n), .int (nI (N + 1)), .int (nI o), .long nm, .int (nI cd), .int (nI wt)])), (t, .inl (g.2.1, 30, .inl (upd ft N (nI t1)))), (f1, .inl (g.2.1, 30, .inl (upd fa N (nI a1)))), (f2, .inl (g.2.1, 30, .inl (upd fb N (if nI t1 = 5 then nI a1 else x2)))), (on, .inl (g.2.1, 6, .inl fo))]) [0, 1, 2, 3, 4, 5] (by decide) rfl
              exact W.iret (v := 0) hx hb hr (fun tt ht hW => ⟨⟨_, ((N + 1), (upd ft N (nI t1)), (upd fa N (nI a1)), (upd fb N (if nI t1 = 5 then nI a1 else x2))), rfl, tG_y hV ⟨(show t1 ≤ 5 by have := nI_n5 c_1 (by omega); omega), ((op_k (show t1 ≤ 5 by have := nI_n5 c_1 (by omega); omega) h23).mp c_4), (bd_t c_7), (fun _ => bd_t c_15)⟩ (bd_t c_18) h23 (fun q => (hb3 q).1), by rw [ht]; exact hP9, hD9⟩, hS.F ht⟩) hS.2.2 dX4_takeGate_79
            · have c_18h : bI (decide (N + 1 ≤ n + 24)) = (0 : Int32) := c_18
              refine lv_iconst (v := 4) hx hb dX4_takeGate_65 (by decide) ?_
              have hP9 := hP.sub (ws' := [(rd, .inr (4, [.ref tb, .ref a, yn, .int (nI kk), .int (nI pz), .int es, .int rs])), (a, .inr (1, [.ref t, .ref f1, .ref f2, .ref on, .int (nI n), .int (nI N), .int (nI o), .long nm, .int (nI cd), .int (nI wt)])), (t, .inl (g.2.1, 30, .inl ft)), (f1, .inl (g.2.1, 30, .inl fa)), (f2, .inl (g.2.1, 30, .inl fb)), (on, .inl (g.2.1, 6, .inl fo))]) [0, 1, 2, 3, 4, 5] rfl
              have hD9 := hD.sub (ws' := [(rd, .inr (4, [.ref tb, .ref a, yn, .int (nI kk), .int (nI pz), .int es, .int rs])), (a, .inr (1, [.ref t, .ref f1, .ref f2, .ref on, .int (nI n), .int (nI N), .int (nI o), .long nm, .int (nI cd), .int (nI wt)])), (t, .inl (g.2.1, 30, .inl ft)), (f1, .inl (g.2.1, 30, .inl fa)), (f2, .inl (g.2.1, 30, .inl fb)), (on, .inl (g.2.1, 6, .inl fo))]) [0, 1, 2, 3, 4, 5] (by decide) rfl
              exact W.iret (v := 4) hx hb hr (fun tt ht hW => ⟨⟨_, (N, ft, fa, fb), rfl, tG_4 hV ⟨(show t1 ≤ 5 by have := nI_n5 c_1 (by omega); omega), ((op_k (show t1 ≤ 5 by have := nI_n5 c_1 (by omega); omega) h23).mp c_4), (bd_t c_7), (fun _ => bd_t c_15)⟩ (bd_f c_18), by rw [ht]; exact hP9, hD9⟩, hS.F ht⟩) hS.2.2 dX4_takeGate_66
          · have c_15h : bI (decide (b1 < N)) = (0 : Int32) := c_15
            refine lv_iconst (v := 3) hx hb dX4_takeGate_52 (by decide) ?_
            have hP9 := hP.sub (ws' := [(rd, .inr (4, [.ref tb, .ref a, yn, .int (nI kk), .int (nI pz), .int es, .int rs])), (a, .inr (1, [.ref t, .ref f1, .ref f2, .ref on, .int (nI n), .int (nI N), .int (nI o), .long nm, .int (nI cd), .int (nI wt)])), (t, .inl (g.2.1, 30, .inl ft)), (f1, .inl (g.2.1, 30, .inl fa)), (f2, .inl (g.2.1, 30, .inl fb)), (on, .inl (g.2.1, 6, .inl fo))]) [0, 1, 2, 3, 4, 5] rfl
            have hD9 := hD.sub (ws' := [(rd, .inr (4, [.ref tb, .ref a, yn, .int (nI kk), .int (nI pz), .int es, .int rs])), (a, .inr (1, [.ref t, .ref f1, .ref f2, .ref on, .int (nI n), .int (nI N), .int (nI o), .long nm, .int (nI cd), .int (nI wt)])), (t, .inl (g.2.1, 30, .inl ft)), (f1, .inl (g.2.1, 30, .inl fa)), (f2, .inl (g.2.1, 30, .inl fb)), (on, .inl (g.2.1, 6, .inl fo))]) [0, 1, 2, 3, 4, 5] (by decide) rfl
            exact W.iret (v := 3) hx hb hr (fun tt ht hW => ⟨⟨_, (N, ft, fa, fb), rfl, tG_3 hV (fun z => bd_f c_15 (z.2.2.2 (kk_3 h23 c_8))), by rw [ht]; exact hP9, hD9⟩, hS.F ht⟩) hS.2.2 dX4_takeGate_53
      · have c_7h : bI (decide (a1 < N)) = (0 : Int32) := c_7
        refine lv_iconst (v := 3) hx hb dX4_takeGate_33 (by decide) ?_
        have hP9 := hP.sub (ws' := [(rd, .inr (4, [.ref tb, .ref a, yn, .int (nI kk), .int (nI pz), .int es, .int rs])), (a, .inr (1, [.ref t, .ref f1, .ref f2, .ref on, .int (nI n), .int (nI N), .int (nI o), .long nm, .int (nI cd), .int (nI wt)])), (t, .inl (g.2.1, 30, .inl ft)), (f1, .inl (g.2.1, 30, .inl fa)), (f2, .inl (g.2.1, 30, .inl fb)), (on, .inl (g.2.1, 6, .inl fo))]) [0, 1, 2, 3, 4, 5] rfl
        have hD9 := hD.sub (ws' := [(rd, .inr (4, [.ref tb, .ref a, yn, .int (nI kk), .int (nI pz), .int es, .int rs])), (a, .inr (1, [.ref t, .ref f1, .ref f2, .ref on, .int (nI n), .int (nI N), .int (nI o), .long nm, .int (nI cd), .int (nI wt)])), (t, .inl (g.2.1, 30, .inl ft)), (f1, .inl (g.2.1, 30, .inl fa)), (f2, .inl (g.2.1, 30, .inl fb)), (on, .inl (g.2.1, 6, .inl fo))]) [0, 1, 2, 3, 4, 5] (by decide) rfl
        exact W.iret (v := 3) hx hb hr (fun tt ht hW => ⟨⟨_, (N, ft, fa, fb), rfl, tG_3 hV (fun z => bd_f c_7 z.2.2.1), by rw [ht]; exact hP9, hD9⟩, hS.F ht⟩) hS.2.2 dX4_takeGate_34
