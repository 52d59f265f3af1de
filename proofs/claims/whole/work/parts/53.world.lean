/-! the world of the law: the class, the reference -/
abbrev lw_ws (g : hk_G) (ad : Nat → Nat) (L : Nat) (fc : Nat → Int32) (kc : Int32) (po : Int32) (es : Int32) (rs : Int32) (fn : Nat → Int32) (dn : Nat) (dN : Nat) (do_ : Nat) (dnm : Int64) (dcd : Nat) (dwt : Nat) (dft : Nat → Int32) (dfa : Nat → Int32) (dfb : Nat → Int32) (dfo : Nat → Int32) (n : Nat) (N : Nat) (o : Nat) (nm : Int64) (cd : Nat) (wt : Nat) (ft : Nat → Int32) (fa : Nat → Int32) (fb : Nat → Int32) (fo : Nat → Int32) (nx : Nat) (cu : Nat) (Hn : Nat → Nat) (HN : Nat → Nat) (Ho : Nat → Nat) (Hnm : Nat → Int64) (Hcd : Nat → Nat) (Hwt : Nat → Nat) (Hft : Nat → Nat → Int32) (Hfa : Nat → Nat → Int32) (Hfb : Nat → Nat → Int32) (Hfo : Nat → Nat → Int32) (nc : Nat → Int64) (oc : Nat → Int64) (rc : Nat → Int64) (tl : Nat → Int64) (ef : Nat → Int64) (fs : Nat → Int32) (fr : Nat → Int32) (fk : Nat → Int32) (fx : Nat → Int32) (fv : Nat → Int32) (fe : Nat → Int64) (sp : Nat) (rx : Nat) (wx : Nat) (km : Nat) (ln : Nat) : va_W := [((ad 0), .inr (5, [.ref (ad 1), .ref (ad 3), .ref (ad 10), .ref (ad 15), .ref (ad 42)])), ((ad 1), .inr (2, [.ref (ad 2), .int (nI L)])), ((ad 2), .inl (g.1, 200, .inl fc)), ((ad 3), .inr (4, [.ref (ad 1), .ref (ad 5), .ref (ad 4), .int kc, .int po, .int es, .int rs])), ((ad 4), .inl (g.2.1, 3, .inl fn)), ((ad 5), .inr (1, [.ref (ad 6), .ref (ad 7), .ref (ad 8), .ref (ad 9), .int (nI dn), .int (nI dN), .int (nI do_), .long dnm, .int (nI dcd), .int (nI dwt)])), ((ad 6), .inl (g.2.1, 30, .inl dft)), ((ad 7), .inl (g.2.1, 30, .inl dfa)), ((ad 8), .inl (g.2.1, 30, .inl dfb)), ((ad 9), .inl (g.2.1, 6, .inl dfo)), ((ad 10), .inr (1, [.ref (ad 11), .ref (ad 12), .ref (ad 13), .ref (ad 14), .int (nI n), .int (nI N), .int (nI o), .long nm, .int (nI cd), .int (nI wt)])), ((ad 11), .inl (g.2.1, 30, .inl ft)), ((ad 12), .inl (g.2.1, 30, .inl fa)), ((ad 13), .inl (g.2.1, 30, .inl fb)), ((ad 14), .inl (g.2.1, 6, .inl fo)), ((ad 15), .inr (3, [.ref (ad 16), .int (nI nx), .int (nI cu)])), ((ad 16), .inl (g.2.2.2, 5, .inr (.inr (.inr (.inr (hkS (ad 17) (ad 22) (ad 27) (ad 32) (ad 37))))))), ((ad 17), .inr (1, [.ref (ad 18), .ref (ad 19), .ref (ad 20), .ref (ad 21), .int (nI (Hn 0)), .int (nI (HN 0)), .int (nI (Ho 0)), .long (Hnm 0), .int (nI (Hcd 0)), .int (nI (Hwt 0))])), ((ad 18), .inl (g.2.1, 30, .inl (Hft 0))), ((ad 19), .inl (g.2.1, 30, .inl (Hfa 0))), ((ad 20), .inl (g.2.1, 30, .inl (Hfb 0))), ((ad 21), .inl (g.2.1, 6, .inl (Hfo 0))), ((ad 22), .inr (1, [.ref (ad 23), .ref (ad 24), .ref (ad 25), .ref (ad 26), .int (nI (Hn 1)), .int (nI (HN 1)), .int (nI (Ho 1)), .long (Hnm 1), .int (nI (Hcd 1)), .int (nI (Hwt 1))])), ((ad 23), .inl (g.2.1, 30, .inl (Hft 1))), ((ad 24), .inl (g.2.1, 30, .inl (Hfa 1))), ((ad 25), .inl (g.2.1, 30, .inl (Hfb 1))), ((ad 26), .inl (g.2.1, 6, .inl (Hfo 1))), ((ad 27), .inr (1, [.ref (ad 28), .ref (ad 29), .ref (ad 30), .ref (ad 31), .int (nI (Hn 2)), .int (nI (HN 2)), .int (nI (Ho 2)), .long (Hnm 2), .int (nI (Hcd 2)), .int (nI (Hwt 2))])), ((ad 28), .inl (g.2.1, 30, .inl (Hft 2))), ((ad 29), .inl (g.2.1, 30, .inl (Hfa 2))), ((ad 30), .inl (g.2.1, 30, .inl (Hfb 2))), ((ad 31), .inl (g.2.1, 6, .inl (Hfo 2))), ((ad 32), .inr (1, [.ref (ad 33), .ref (ad 34), .ref (ad 35), .ref (ad 36), .int (nI (Hn 3)), .int (nI (HN 3)), .int (nI (Ho 3)), .long (Hnm 3), .int (nI (Hcd 3)), .int (nI (Hwt 3))])), ((ad 33), .inl (g.2.1, 30, .inl (Hft 3))), ((ad 34), .inl (g.2.1, 30, .inl (Hfa 3))), ((ad 35), .inl (g.2.1, 30, .inl (Hfb 3))), ((ad 36), .inl (g.2.1, 6, .inl (Hfo 3))), ((ad 37), .inr (1, [.ref (ad 38), .ref (ad 39), .ref (ad 40), .ref (ad 41), .int (nI (Hn 4)), .int (nI (HN 4)), .int (nI (Ho 4)), .long (Hnm 4), .int (nI (Hcd 4)), .int (nI (Hwt 4))])), ((ad 38), .inl (g.2.1, 30, .inl (Hft 4))), ((ad 39), .inl (g.2.1, 30, .inl (Hfa 4))), ((ad 40), .inl (g.2.1, 30, .inl (Hfb 4))), ((ad 41), .inl (g.2.1, 6, .inl (Hfo 4))), ((ad 42), .inr (0, [.ref (ad 10), .ref (ad 43), .ref (ad 44), .ref (ad 45), .ref (ad 46), .ref (ad 47)])), ((ad 43), .inl (g.2.2.1, 30, .inr (.inl nc))), ((ad 44), .inl (g.2.2.1, 6, .inr (.inl oc))), ((ad 45), .inl (g.2.2.1, 6, .inr (.inl rc))), ((ad 46), .inl (g.2.2.1, 3, .inr (.inl tl))), ((ad 47), .inl (g.2.2.1, 64, .inr (.inl ef))), ((ad 48), .inr (6, [.ref (ad 49), .ref (ad 50), .ref (ad 51), .int (nI km), .ref (ad 52), .int (nI ln), .int (nI sp), .int (nI rx), .int (nI wx), .ref (ad 53), .ref (ad 54)])), ((ad 49), .inl (g.2.1, 147, .inl fs)), ((ad 50), .inl (g.2.1, 147, .inl fr)), ((ad 51), .inl (g.2.1, 735, .inl fk)), ((ad 52), .inl (g.2.1, 200, .inl fx)), ((ad 53), .inl (g.2.1, 30, .inl fv)), ((ad 54), .inl (g.2.2.1, 64, .inr (.inl fe)))]
def lw_I (D : va_G) (g : hk_G) (ad : Nat → Nat) (s : State) (H : Heap) (locs : List Loc) : Prop := ∃ (tx : Nat → Nat) (L : Nat) (fc : Nat → Int32) (kc : Int32) (po : Int32) (es : Int32) (rs : Int32) (fn : Nat → Int32) (dn : Nat) (dN : Nat) (do_ : Nat) (dnm : Int64) (dcd : Nat) (dwt : Nat) (dft : Nat → Int32) (dfa : Nat → Int32) (dfb : Nat → Int32) (dfo : Nat → Int32) (n : Nat) (N : Nat) (o : Nat) (nm : Int64) (cd : Nat) (wt : Nat) (ft : Nat → Int32) (fa : Nat → Int32) (fb : Nat → Int32) (fo : Nat → Int32) (nx : Nat) (cu : Nat) (Hn : Nat → Nat) (HN : Nat → Nat) (Ho : Nat → Nat) (Hnm : Nat → Int64) (Hcd : Nat → Nat) (Hwt : Nat → Nat) (Hft : Nat → Nat → Int32) (Hfa : Nat → Nat → Int32) (Hfb : Nat → Nat → Int32) (Hfo : Nat → Nat → Int32) (nc : Nat → Int64) (oc : Nat → Int64) (rc : Nat → Int64) (tl : Nat → Int64) (ef : Nat → Int64) (fs : Nat → Int32) (fr : Nat → Int32) (fk : Nat → Int32) (fx : Nat → Int32) (fv : Nat → Int32) (fe : Nat → Int64) (sp : Nat) (rx : Nat) (wx : Nat), va_P D vwCl (lw_ws g ad L fc kc po es rs fn dn dN do_ dnm dcd dwt dft dfa dfb dfo n N o nm cd wt ft fa fb fo nx cu Hn HN Ho Hnm Hcd Hwt Hft Hfa Hfb Hfo nc oc rc tl ef fs fr fk fx fv fe sp rx wx cu L) H ∧ va_D (fun q : Nat => s.heap.size ≤ q) (lw_ws g ad L fc kc po es rs fn dn dN do_ dnm dcd dwt dft dfa dfb dfo n N o nm cd wt ft fa fb fo nx cu Hn HN Ho Hnm Hcd Hwt Hft Hfa Hfb Hfo nc oc rc tl ef fs fr fk fx fv fe sp rx wx cu L) ∧ va_S (fun q : Nat => s.heap.size ≤ q) s.heap H locs ∧ (TX tx L fc ∧ (∀ j, narrow .char (.int (fc j)) = .int (fc j)) ∧ TX tx L fx) ∧ (∃ dty dpa dpb dvo : Nat → Nat, CR dn dN do_ dty dpa dpb dvo dnm dft dfa dfb dfo) ∧ jr_R n N o cd wt nm ft fa fb fo fs ∧ jr_H nx cu Hn HN Ho Hcd Hwt Hnm Hft Hfa Hfb Hfo fk
def lw_B (p : Program) (s : State) (m : MethodId) (meth : Method) (c : Code) (b Ls : Nat) (xs : Nat → Int32) (D : va_G) (g : hk_G) (ti : Nat) : Prop := p.tables.exec = Jvm.exec ∧ c.code = cL_law ∧ meth.sig.returnType = ret ∧ c.maxLocals = 4 ∧ s.vm.findClass RL = some m.cls ∧ (∀ w ∈ wsL_law, w.before #[Value.ref b] s = true) ∧ va_X b Ls xs s s.heap ∧ b < s.heap.size ∧ meth.locks = false ∧ hk_E D g ti (fun q : Nat => s.heap.size ≤ q) s s.heap
abbrev lw_l (ad : Nat → Nat) (b i : Nat) : List (Nat × Value) := [(0, .ref b), (1, .ref (ad 0)), (2, .ref (ad 48)), (3, .int (nI i))]
def lw_J (p : Program) (l : Launch) (e : Env) (s : State) (m : MethodId) (below : List Frame) (meth : Method) (c : Code) (D : va_G) (g : hk_G) (ad : Nat → Nat) (b i pc : Nat) : Prop := ∀ (H : Heap) (locs : List Loc) (ls : Array Slot), lw_I D g ad s H locs → lv_has ls 4 (lw_l ad b i) → W p l e room_1 s m #[Value.ref b] below meth c H locs 55 2416 (lw_Z below #[Value.ref b] s) (F0 m pc ls [])
theorem lc_arg {p : Program} {l : Launch} {e : Env} {s : State} {m : MethodId} {below : List Frame} {meth : Method} {c : Code} {D : va_G} {g : hk_G} {ti b Ls i : Nat} {xs : Nat → Int32} {ad : Nat → Nat} (B : lw_B p s m meth c b Ls xs D g ti) (hLs : Ls ≤ 2560) (hi : i + 5 ≤ Ls) {H : Heap} {locs : List Loc} (hS : va_S (fun q : Nat => s.heap.size ≤ q) s.heap H locs) {ls : Array Slot} (hl : lv_has ls 4 (lw_l ad b i)) {st : List Value} {Q : State → Prop} {pc : Nat} (k : Nat) (hk : k < 5) {kz : Int} (d1 : decode cL_law pc = .ok (.aload_n 0, 1)) (d2 : decode cL_law (pc + 1) = .ok (.iload_n 3, 1)) (d3 : decode cL_law (pc + 1 + 1) = .ok (.iconst kz, 1)) (d4 : decode cL_law (pc + 1 + 1 + 1) = .ok (.iadd, 1)) (d5 : decode cL_law (pc + 1 + 1 + 1 + 1) = .ok (.iaload, 1)) (ek : Int32.ofInt kz = nI k)
    (kk : W p l e room_1 s m #[Value.ref b] below meth c H locs 55 2416 Q (F0 m (pc + 5) ls (.int (xs (i + k)) :: st))) : W p l e room_1 s m #[Value.ref b] below meth c H locs 55 2416 Q (F0 m pc ls st) := by
  obtain ⟨hx, hb, hr, hml, hown, hts, hX, hbl, hlocks, hE⟩ := B
  have hbA : ¬ (fun q : Nat => s.heap.size ≤ q) b := Nat.not_le.mpr hbl
  refine lv_aload_n hx hb d1 rfl (lv_at hl 0 rfl) ?_
  refine lv_iload_n hx hb d2 rfl (lv_at hl 3 rfl) ?_
  refine lv_iconst (v := nI k) hx hb d3 ek ?_
  refine lv_iadd hx hb d4 ?_
  refine hk_ti (nI (i + k)) (nI_add i k) ?_
  refine va_sld hx hb hX hbl hbA hS (vp_in_nI (N := Ls) (by omega) (by omega)) d5 ?_
  refine hk_ti (xs (i + k)) (by rw [nI_clamp (by omega)]) ?_
  exact kk
theorem an_t0 {tx : Nat → Nat} {fc : Nat → Int32} : TX tx 0 fc := ⟨by decide, fun j hj => absurd hj (Nat.not_lt_zero j)⟩
theorem an_pA {tx : Nat → Nat} {L : Nat} (V W : VT) : (pA tx L 201 0 V).1 = (pA tx L 201 0 W).1 ∧ (pA tx L 201 0 V).2.1 = (pA tx L 201 0 W).2.1 := by
  rcases Nat.eq_zero_or_pos L with q | q
  · rw [pA_end (by omega), pA_end (by omega)]; exact ⟨rfl, rfl⟩
  · rw [pA_0 q V W 201 (by decide)]; exact ⟨rfl, rfl⟩
theorem an_CV {n N o : Nat} {nm : Int64} {ft fa fb fo : Nat → Int32} (h : ∃ V, CRV V n N o nm ft fa fb fo) : ∃ ty pa pb vo : Nat → Nat, CR n N o ty pa pb vo nm ft fa fb fo := by
  obtain ⟨V, ty, pa, pb, vo, -, h2⟩ := h
  exact ⟨ty, pa, pb, vo, h2⟩
theorem an_N {V : VT} {n N o : Nat} {nm : Int64} {ft fa fb fo : Nat → Int32} (h : CRV V n N o nm ft fa fb fo) : nI N = nI V.2.1 := by
  obtain ⟨ty, pa, pb, vo, e, -⟩ := h
  rw [e]
theorem an_ag {N : Nat} {y p q : Int32} (h : agA N y p q = true) : hn 6 y = true ∧ hn N p = true ∧ (y = 5 ∨ hn N q = true) := by
  unfold agA at h
  rw [Bool.and_eq_true, Bool.and_eq_true, Bool.or_eq_true, decide_eq_true_eq] at h
  exact ⟨h.1.1, h.1.2, h.2⟩
theorem an_b2 {N y : Nat} {q : Int32} (h : nI y = 5 ∨ hn N q = true) (hN : N < 2 ^ 31) (hy : y < 2 ^ 31) : ∃ b, ¬ y = 5 → b < N ∧ q = nI b := by
  rcases h with h | h
  · exact ⟨0, fun z => absurd (nI_inj (b := 5) h hy (by decide)) z⟩
  · obtain ⟨b, hb, eb⟩ := hn_ex h hN
    exact ⟨b, fun _ => ⟨hb, eb⟩⟩
theorem an_no {b : Bool} {p : Prop} (h : ¬ (b = true ∧ p)) : b = false ∨ ¬ p := by
  cases b
  · exact Or.inl rfl
  · exact Or.inr (fun q => h ⟨rfl, q⟩)
theorem an_no2 {a b : Bool} (h : ¬ (a = true ∧ b = true)) : a = false ∨ b = false := by
  cases a
  · exact Or.inl rfl
  · cases b
    · exact Or.inr rfl
    · exact absurd ⟨rfl, rfl⟩ h
theorem an_no3 {a b : Bool} {p : Prop} (h : ¬ (a = true ∧ (p ∨ b = true))) : a = false ∨ (¬ p ∧ b = false) := by
  cases a
  · exact Or.inl rfl
  · refine Or.inr ⟨fun q => h ⟨rfl, Or.inl q⟩, ?_⟩
    cases b
    · rfl
    · exact absurd ⟨rfl, Or.inr rfl⟩ h
