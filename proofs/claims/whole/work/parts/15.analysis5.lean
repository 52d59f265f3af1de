theorem hk_ce1 {y k : Nat} {P : Bool} (h : y = k → P = false) : (decide (y < k) && P) = (decide (y < k + 1) && P) := by
  by_cases q : y = k
  · rw [h q, Bool.and_false, Bool.and_false]
  · rw [decide_eq_decide.mpr (show y < k ↔ y < k + 1 by omega)]
theorem hk_ce2 {y k : Nat} {P : Int32 → Nat → Bool} {w : Nat} : ((decide (y < k) && P (nI y) w) || (P (nI k) w && decide (y = k))) = (decide (y < k + 1) && P (nI y) w) := by
  by_cases q : y = k
  · subst q; simp
  · have e : decide (y < k) = decide (y < k + 1) := decide_eq_decide.mpr (by omega)
    rw [e, decide_eq_false q, Bool.and_false, Bool.or_false]
theorem hk_ce3 {y k : Nat} {P : Nat → Bool} (h : y = k → P y = true) : ((decide (y < k) && P y) || decide (y = k)) = (decide (y < k + 1) && P y) := by
  by_cases q : y = k
  · rw [h q]; subst q; simp
  · have e : decide (y < k) = decide (y < k + 1) := decide_eq_decide.mpr (by omega)
    rw [e, decide_eq_false q, Bool.or_false]
theorem hk_an0 {P : Nat → Bool} (h : ∀ w, w < 64 → P w = false) : anB P 64 = false := by
  cases hb : anB P 64
  · rfl
  · obtain ⟨i, hi, h1⟩ := (anB_iff P 64).mp hb
    rw [h i hi] at h1; cases h1
theorem hk_an1 {P : Nat → Bool} {x : Int64} (h : ∀ w, w < 64 → P w = lb x w) (hx : ¬ x = 0) : anB P 64 = true := by
  obtain ⟨w, hw, h1⟩ := lb_ne0.mp hx
  exact (anB_iff P 64).mpr ⟨w, hw, by rw [h w hw]; exact h1⟩
set_option maxHeartbeats 4000000 in
set_option maxRecDepth 100000 in
theorem c0_collectExposed (l : Launch) (D : va_G) (g : hk_G) (ti : Nat) (sz : Nat) (z : Nat) (q1 : Nat) (q2 : Nat) (q3 : Nat) (q4 : Nat) (q5 : Nat) (nc : Nat → Int64) (oc : Nat → Int64) (rc : Nat → Int64) (tl : Nat → Int64) (ef : Nat → Int64) (a : Nat) (t : Nat) (f1 : Nat) (f2 : Nat) (on : Nat) (ft : Nat → Int32) (fa : Nat → Int32) (fb : Nat → Int32) (fo : Nat → Int32) (n : Nat) (N : Nat) (o : Nat) (nm : Int64) (cd : Nat) (wt : Nat) (ty : Nat → Nat) (pa : Nat → Nat) (pb : Nat → Nat) (vo : Nat → Nat) (hC : Cok n N o cd wt) (hG : Gok n N ty pa pb ft fa fb) (hO : Ook N o vo fo) : Met l yX0_collectExposed wsX0_collectExposed ({ frames := 4, cells := 0, slots := 0, locals := 95 }) (va_Pc [.ref z] (hk_In D g ti [(z, .inr (0, [.ref a, .ref q1, .ref q2, .ref q3, .ref q4, .ref q5])), (q1, .inl (g.2.2.1, 30, .inr (.inl nc))), (q2, .inl (g.2.2.1, 6, .inr (.inl oc))), (q3, .inl (g.2.2.1, 6, .inr (.inl rc))), (q4, .inl (g.2.2.1, 3, .inr (.inl tl))), (q5, .inl (g.2.2.1, 64, .inr (.inl ef))), (a, .inr (1, [.ref t, .ref f1, .ref f2, .ref on, .int (nI n), .int (nI N), .int (nI o), .long nm, .int (nI cd), .int (nI wt)])), (t, .inl (g.2.1, 30, .inl ft)), (f1, .inl (g.2.1, 30, .inl fa)), (f2, .inl (g.2.1, 30, .inl fb)), (on, .inl (g.2.1, 6, .inl fo))] sz)) (va_Ql (S := (Nat → Int64) × (Nat → Int64) × (Nat → Int64) × (Nat → Int64)) (fun r u => (∀ w, w < 64 → ∀ y, y < 64 → lb (u.2.2.2 w) y = (decide (y < 2 * N) && exB n o cd wt ty pa pb vo nm (nI y) w)) ∧ ∀ y, y < 64 → lb r y = (decide (y < 2 * N) && anB (exB n o cd wt ty pa pb vo nm (nI y)) 64)) (fun u => hk_Out D (va_A [(z, .inr (0, [.ref a, .ref q1, .ref q2, .ref q3, .ref q4, .ref q5])), (q1, .inl (g.2.2.1, 30, .inr (.inl nc))), (q2, .inl (g.2.2.1, 6, .inr (.inl oc))), (q3, .inl (g.2.2.1, 6, .inr (.inl rc))), (q4, .inl (g.2.2.1, 3, .inr (.inl tl))), (q5, .inl (g.2.2.1, 64, .inr (.inl ef))), (a, .inr (1, [.ref t, .ref f1, .ref f2, .ref on, .int (nI n), .int (nI N), .int (nI o), .long nm, .int (nI cd), .int (nI wt)])), (t, .inl (g.2.1, 30, .inl ft)), (f1, .inl (g.2.1, 30, .inl fa)), (f2, .inl (g.2.1, 30, .inl fb)), (on, .inl (g.2.1, 6, .inl fo))] sz) (match u with | (g1, g2, g4, g5) => [(z, .inr (0, [.ref a, .ref q1, .ref q2, .ref q3, .ref q4, .ref q5])), (q1, .inl (g.2.2.1, 30, .inr (.inl g1))), (q2, .inl (g.2.2.1, 6, .inr (.inl g2))), (q3, .inl (g.2.2.1, 6, .inr (.inl rc))), (q4, .inl (g.2.2.1, 3, .inr (.inl g4))), (q5, .inl (g.2.2.1, 64, .inr (.inl g5))), (a, .inr (1, [.ref t, .ref f1, .ref f2, .ref on, .int (nI n), .int (nI N), .int (nI o), .long nm, .int (nI cd), .int (nI wt)])), (t, .inl (g.2.1, 30, .inl ft)), (f1, .inl (g.2.1, 30, .inl fa)), (f2, .inl (g.2.1, 30, .inl fb)), (on, .inl (g.2.1, 6, .inl fo))])) (va_A [(z, .inr (0, [.ref a, .ref q1, .ref q2, .ref q3, .ref q4, .ref q5])), (q1, .inl (g.2.2.1, 30, .inr (.inl nc))), (q2, .inl (g.2.2.1, 6, .inr (.inl oc))), (q3, .inl (g.2.2.1, 6, .inr (.inl rc))), (q4, .inl (g.2.2.1, 3, .inr (.inl tl))), (q5, .inl (g.2.2.1, 64, .inr (.inl ef))), (a, .inr (1, [.ref t, .ref f1, .ref f2, .ref on, .int (nI n), .int (nI N), .int (nI o), .long nm, .int (nI cd), .int (nI wt)])), (t, .inl (g.2.1, 30, .inl ft)), (f1, .inl (g.2.1, 30, .inl fa)), (f2, .inl (g.2.1, 30, .inl fb)), (on, .inl (g.2.1, 6, .inl fo))] sz)) 0 0 (va_A [(z, .inr (0, [.ref a, .ref q1, .ref q2, .ref q3, .ref q4, .ref q5])), (q1, .inl (g.2.2.1, 30, .inr (.inl nc))), (q2, .inl (g.2.2.1, 6, .inr (.inl oc))), (q3, .inl (g.2.2.1, 6, .inr (.inl rc))), (q4, .inl (g.2.2.1, 3, .inr (.inl tl))), (q5, .inl (g.2.2.1, 64, .inr (.inl ef))), (a, .inr (1, [.ref t, .ref f1, .ref f2, .ref on, .int (nI n), .int (nI N), .int (nI o), .long nm, .int (nI cd), .int (nI wt)])), (t, .inl (g.2.1, 30, .inl ft)), (f1, .inl (g.2.1, 30, .inl fa)), (f2, .inl (g.2.1, 30, .inl fb)), (on, .inl (g.2.1, 6, .inl fo))] sz) := by
  refine Met.ofW (cc := cX0_collectExposed) (maxL := 6) (ret := (some .long)) (by decide) rfl ?_
  intro p e s m args below meth c s₁ Bd hml hv
  obtain ⟨rfl, hsz, hP, hD0, hE⟩ := hv
  have hx := Bd.exec
  have hb := Bd.bytes
  have hr := Bd.returns
  have hts := atoms_spec (ws := wsX0_collectExposed) Bd.pre
  have hown : s.vm.findClass RX0 = some m.cls := findClass_of_methodNamed Bd.named
  have hlocks := Bd.notSynchronized
  have hK := hE.1
  have hi0 : ∀ w ∈ wsX00, w ∈ wsX0_collectExposed := fun w h => List.mem_cons_of_mem _ (List.mem_append_left _ (List.mem_append_right _ h))
  subst hsz
  have hD := hD0.self (sz := s.heap.size)
  generalize hAe : va_A [(z, .inr (0, [.ref a, .ref q1, .ref q2, .ref q3, .ref q4, .ref q5])), (q1, .inl (g.2.2.1, 30, .inr (.inl nc))), (q2, .inl (g.2.2.1, 6, .inr (.inl oc))), (q3, .inl (g.2.2.1, 6, .inr (.inl rc))), (q4, .inl (g.2.2.1, 3, .inr (.inl tl))), (q5, .inl (g.2.2.1, 64, .inr (.inl ef))), (a, .inr (1, [.ref t, .ref f1, .ref f2, .ref on, .int (nI n), .int (nI N), .int (nI o), .long nm, .int (nI cd), .int (nI wt)])), (t, .inl (g.2.1, 30, .inl ft)), (f1, .inl (g.2.1, 30, .inl fa)), (f2, .inl (g.2.1, 30, .inl fb)), (on, .inl (g.2.1, 6, .inl fo))] s.heap.size = A at hD hE ⊢
  have hA : ∀ q : Nat, s.heap.size ≤ q → A q := fun q h => by rw [← hAe]; exact Or.inr h
  have hS : va_S A s.heap s.heap [] := va_S.rf
  have hl := lv_entry ([.ref z]) (n := 6) (Nat.le_of_ble_eq_true rfl)
  rw [lg_entry_eq]
  generalize (lg_sl ([.ref z]) ++ List.replicate (6 - (lg_sl ([.ref z])).length) Slot.unset).toArray = ls at hl ⊢
  have hl : lv_has ls 6 [(0, .ref z)] := hl
  refine lv_iconst (v := 0) hx hb dX0_collectExposed_0 (by decide) ?_
  refine lv_istore_n (lv' := [(1, .int 0), (0, .ref z)]) hx hb dX0_collectExposed_1 rfl hl (by decide) rfl (fun ls hl => ?_)
  have loop2 : ∀ (fuel : Nat) (i : Nat) (eg : Nat → Int64), (64 - i) < fuel → (i ≤ 64) → (∀ v, v < i → eg v = 0) → ∀ (H : Heap) (locs : List Loc), va_P D vwCl [(z, .inr (0, [.ref a, .ref q1, .ref q2, .ref q3, .ref q4, .ref q5])), (q1, .inl (g.2.2.1, 30, .inr (.inl nc))), (q2, .inl (g.2.2.1, 6, .inr (.inl oc))), (q3, .inl (g.2.2.1, 6, .inr (.inl rc))), (q4, .inl (g.2.2.1, 3, .inr (.inl tl))), (q5, .inl (g.2.2.1, 64, .inr (.inl eg))), (a, .inr (1, [.ref t, .ref f1, .ref f2, .ref on, .int (nI n), .int (nI N), .int (nI o), .long nm, .int (nI cd), .int (nI wt)])), (t, .inl (g.2.1, 30, .inl ft)), (f1, .inl (g.2.1, 30, .inl fa)), (f2, .inl (g.2.1, 30, .inl fb)), (on, .inl (g.2.1, 6, .inl fo))] H → va_D A [(z, .inr (0, [.ref a, .ref q1, .ref q2, .ref q3, .ref q4, .ref q5])), (q1, .inl (g.2.2.1, 30, .inr (.inl nc))), (q2, .inl (g.2.2.1, 6, .inr (.inl oc))), (q3, .inl (g.2.2.1, 6, .inr (.inl rc))), (q4, .inl (g.2.2.1, 3, .inr (.inl tl))), (q5, .inl (g.2.2.1, 64, .inr (.inl eg))), (a, .inr (1, [.ref t, .ref f1, .ref f2, .ref on, .int (nI n), .int (nI N), .int (nI o), .long nm, .int (nI cd), .int (nI wt)])), (t, .inl (g.2.1, 30, .inl ft)), (f1, .inl (g.2.1, 30, .inl fa)), (f2, .inl (g.2.1, 30, .inl fb)), (on, .inl (g.2.1, 6, .inl fo))] → va_S A s.heap H locs → ∀ ls : Array Slot, lv_has ls 6 [(1, .int (nI i)), (0, .ref z)] → W p l e (headSpec wsX0_collectExposed ({ frames := 4, cells := 0, slots := 0, locals := 95 })).room s m ([.ref z] : List Value).toArray below meth c H locs 0 0 (MQ below (va_Ql (S := (Nat → Int64) × (Nat → Int64) × (Nat → Int64) × (Nat → Int64)) (fun r u => (∀ w, w < 64 → ∀ y, y < 64 → lb (u.2.2.2 w) y = (decide (y < 2 * N) && exB n o cd wt ty pa pb vo nm (nI y) w)) ∧ ∀ y, y < 64 → lb r y = (decide (y < 2 * N) && anB (exB n o cd wt ty pa pb vo nm (nI y)) 64)) (fun u => hk_Out D A (match u with | (g1, g2, g4, g5) => [(z, .inr (0, [.ref a, .ref q1, .ref q2, .ref q3, .ref q4, .ref q5])), (q1, .inl (g.2.2.1, 30, .inr (.inl g1))), (q2, .inl (g.2.2.1, 6, .inr (.inl g2))), (q3, .inl (g.2.2.1, 6, .inr (.inl rc))), (q4, .inl (g.2.2.1, 3, .inr (.inl g4))), (q5, .inl (g.2.2.1, 64, .inr (.inl g5))), (a, .inr (1, [.ref t, .ref f1, .ref f2, .ref on, .int (nI n), .int (nI N), .int (nI o), .long nm, .int (nI cd), .int (nI wt)])), (t, .inl (g.2.1, 30, .inl ft)), (f1, .inl (g.2.1, 30, .inl fa)), (f2, .inl (g.2.1, 30, .inl fb)), (on, .inl (g.2.1, 6, .inl fo))])) A) ([.ref z] : List Value).toArray s 0 0 A) (F0 m 2 ls []) := by
    intro fuel
    induction fuel with
    | zero => intro i eg hm; exact absurd hm (Nat.not_lt_zero _)
    | succ fuel ih_2 =>
      intro i eg hm_2 hi he H locs hP hD hS ls hl
      refine lv_iload_n hx hb dX0_collectExposed_2 rfl (lv_at hl 0 rfl) ?_
      refine lv_bipush (v := 64) hx hb dX0_collectExposed_3 (by decide) ?_
      refine lv_icmp_ge (tgt := 21) hx hb dX0_collectExposed_5 (by decide) (fun c_1 => ?_) (fun c_1 => ?_)
      · have c_1h : (64 : Int32) ≤ nI i := c_1
        refine lv_lconst (v := 0) hx hb dX0_collectExposed_21 (by decide) ?_
        refine lv_lstore_n (lv' := [(1, .long 0), (0, .ref z)]) hx hb dX0_collectExposed_22 rfl hl (by decide) rfl (fun ls hl => ?_)
        refine lv_iconst (v := 0) hx hb dX0_collectExposed_23 (by decide) ?_
        refine lv_istore_n (lv' := [(3, .int 0), (1, .long 0), (0, .ref z)]) hx hb dX0_collectExposed_24 rfl hl (by decide) rfl (fun ls hl => ?_)
        have loop25 : ∀ (fuel : Nat) (k : Nat) (tb : Int64) (h1 : Nat → Int64) (h2 : Nat → Int64) (h4 : Nat → Int64) (h5 : Nat → Int64), (2 * N - k) < fuel → (k ≤ 2 * N) → (∀ w, w < 64 → ∀ y, y < 64 → lb (h5 w) y = (decide (y < k) && exB n o cd wt ty pa pb vo nm (nI y) w)) → (∀ y, y < 64 → lb tb y = (decide (y < k) && anB (exB n o cd wt ty pa pb vo nm (nI y)) 64)) → ∀ (H : Heap) (locs : List Loc), va_P D vwCl [(z, .inr (0, [.ref a, .ref q1, .ref q2, .ref q3, .ref q4, .ref q5])), (q1, .inl (g.2.2.1, 30, .inr (.inl h1))), (q2, .inl (g.2.2.1, 6, .inr (.inl h2))), (q3, .inl (g.2.2.1, 6, .inr (.inl rc))), (q4, .inl (g.2.2.1, 3, .inr (.inl h4))), (q5, .inl (g.2.2.1, 64, .inr (.inl h5))), (a, .inr (1, [.ref t, .ref f1, .ref f2, .ref on, .int (nI n), .int (nI N), .int (nI o), .long nm, .int (nI cd), .int (nI wt)])), (t, .inl (g.2.1, 30, .inl ft)), (f1, .inl (g.2.1, 30, .inl fa)), (f2, .inl (g.2.1, 30, .inl fb)), (on, .inl (g.2.1, 6, .inl fo))] H → va_D A [(z, .inr (0, [.ref a, .ref q1, .ref q2, .ref q3, .ref q4, .ref q5])), (q1, .inl (g.2.2.1, 30, .inr (.inl h1))), (q2, .inl (g.2.2.1, 6, .inr (.inl h2))), (q3, .inl (g.2.2.1, 6, .inr (.inl rc))), (q4, .inl (g.2.2.1, 3, .inr (.inl h4))), (q5, .inl (g.2.2.1, 64, .inr (.inl h5))), (a, .inr (1, [.ref t, .ref f1, .ref f2, .ref on, .int (nI n), .int (nI N), .int (nI o), .long nm, .int (nI cd), .int (nI wt)])), (t, .inl (g.2.1, 30, .inl ft)), (f1, .inl (g.2.1, 30, .inl fa)), (f2, .inl (g.2.1, 30, .inl fb)), (on, .inl (g.2.1, 6, .inl fo))] → va_S A s.heap H locs → ∀ ls : Array Slot, lv_has ls 6 [(3, .int (nI k)), (1, .long tb), (0, .ref z)] → W p l e (headSpec wsX0_collectExposed ({ frames := 4, cells := 0, slots := 0, locals := 95 })).room s m ([.ref z] : List Value).toArray below meth c H locs 0 0 (MQ below (va_Ql (S := (Nat → Int64) × (Nat → Int64) × (Nat → Int64) × (Nat → Int64)) (fun r u => (∀ w, w < 64 → ∀ y, y < 64 → lb (u.2.2.2 w) y = (decide (y < 2 * N) && exB n o cd wt ty pa pb vo nm (nI y) w)) ∧ ∀ y, y < 64 → lb r y = (decide (y < 2 * N) && anB (exB n o cd wt ty pa pb vo nm (nI y)) 64)) (fun u => hk_Out D A (match u with | (g1, g2, g4, g5) => [(z, .inr (0, [.ref a, .ref q1, .ref q2, .ref q3, .ref q4, .ref q5])), (q1, .inl (g.2.2.1, 30, .inr (.inl g1))), (q2, .inl (g.2.2.1, 6, .inr (.inl g2))), (q3, .inl (g.2.2.1, 6, .inr (.inl rc))), (q4, .inl (g.2.2.1, 3, .inr (.inl g4))), (q5, .inl (g.2.2.1, 64, .inr (.inl g5))), (a, .inr (1, [.ref t, .ref f1, .ref f2, .ref on, .int (nI n), .int (nI N), .int (nI o), .long nm, .int (nI cd), .int (nI wt)])), (t, .inl (g.2.1, 30, .inl ft)), (f1, .inl (g.2.1, 30, .inl fa)), (f2, .inl (g.2.1, 30, .inl fb)), (on, .inl (g.2.1, 6, .inl fo))])) A) ([.ref z] : List Value).toArray s 0 0 A) (F0 m 25 ls []) := by
          intro fuel
          induction fuel with
          | zero => intro k tb h1 h2 h4 h5 hm; exact absurd hm (Nat.not_lt_zero _)
          | succ fuel ih_25 =>
            intro k tb h1 h2 h4 h5 hm_25 hk hE2 hT2 H locs hP hD hS ls hl
            refine lv_iload_n hx hb dX0_collectExposed_25 rfl (lv_at hl 0 rfl) ?_
            refine lv_aload_n hx hb dX0_collectExposed_26 rfl (lv_at hl 2 rfl) ?_
            refine va_get (D := D) (ci := 0) (v := .ref a) (C := RX0) (T := TX0) (N := 6) hx hb hts hi0 hown hK hP 0 rfl rfl 0 (by decide) (hts (.fieldLink RX0 27 "SelfCheckingCircuit$Analysis" "circuit" "LSelfCheckingCircuit$Circuit;") (by decide +kernel)) (fun _ h9 => h9) rfl dX0_collectExposed_27 ?_
            refine hk_csi (va_runVN (As := []) (rest := [.int (nI k)]) ⟨hx, hb, hml, hown, hts⟩ (c1_faults l D g ti a (.ref t) (.ref f1) (.ref f2) (.ref on) (nI n) (nI N) (nI o) nm (nI cd) (nI wt) ) ⟨va_cnB 0 hts gX0_collectExposed_X1_faults_n75 rfl rfl rfl (nm_X0_75 hE.2.1) (hts (.initialized RX1) (by decide +kernel)) (by decide +kernel) ⟨Nat.le_of_ble_eq_true rfl, Nat.le_of_ble_eq_true rfl⟩, hts (.instanceMethod yX1_faults) (by decide +kernel), hts (.selects RX1 yX1_faults yX1_faults) (by decide +kernel)⟩ (hk_roV hE hP hS 1 rfl rfl [6] rfl rfl) rfl rfl hl.1 rfl (lv_room (Nat.le_of_ble_eq_true rfl)) dX0_collectExposed_30 ⟨Nat.zero_le _, Nat.zero_le _⟩) (fun r_2 hr_3 => ?_)
            subst hr_3
            refine hk_ti (nI (2 * N)) (pk_mul 2 N) ?_
            refine lv_icmp_ge (tgt := 69) hx hb dX0_collectExposed_33 (by decide) (fun c_4 => ?_) (fun c_4 => ?_)
            · have c_4h : nI (2 * N) ≤ nI k := c_4
              refine lv_lload_n hx hb dX0_collectExposed_69 rfl (lv_at hl 1 rfl) ?_
              have hP9 := hP.sub (ws' := [(z, .inr (0, [.ref a, .ref q1, .ref q2, .ref q3, .ref q4, .ref q5])), (q1, .inl (g.2.2.1, 30, .inr (.inl h1))), (q2, .inl (g.2.2.1, 6, .inr (.inl h2))), (q3, .inl (g.2.2.1, 6, .inr (.inl rc))), (q4, .inl (g.2.2.1, 3, .inr (.inl h4))), (q5, .inl (g.2.2.1, 64, .inr (.inl h5))), (a, .inr (1, [.ref t, .ref f1, .ref f2, .ref on, .int (nI n), .int (nI N), .int (nI o), .long nm, .int (nI cd), .int (nI wt)])), (t, .inl (g.2.1, 30, .inl ft)), (f1, .inl (g.2.1, 30, .inl fa)), (f2, .inl (g.2.1, 30, .inl fb)), (on, .inl (g.2.1, 6, .inl fo))]) [0, 1, 2, 3, 4, 5, 6, 7, 8, 9, 10] rfl
              have hD9 := hD.sub (ws' := [(z, .inr (0, [.ref a, .ref q1, .ref q2, .ref q3, .ref q4, .ref q5])), (q1, .inl (g.2.2.1, 30, .inr (.inl h1))), (q2, .inl (g.2.2.1, 6, .inr (.inl h2))), (q3, .inl (g.2.2.1, 6, .inr (.inl rc))), (q4, .inl (g.2.2.1, 3, .inr (.inl h4))), (q5, .inl (g.2.2.1, 64, .inr (.inl h5))), (a, .inr (1, [.ref t, .ref f1, .ref f2, .ref on, .int (nI n), .int (nI N), .int (nI o), .long nm, .int (nI cd), .int (nI wt)])), (t, .inl (g.2.1, 30, .inl ft)), (f1, .inl (g.2.1, 30, .inl fa)), (f2, .inl (g.2.1, 30, .inl fb)), (on, .inl (g.2.1, 6, .inl fo))]) [0, 1, 2, 3, 4, 5, 6, 7, 8, 9, 10] (by decide) rfl
              exact W.lret (v := tb) hx hb hr (fun tt ht hW => ⟨⟨_, (h1, h2, h4, h5), rfl, ⟨(show k = 2 * N by have := hk_ge (2 * N) c_4 (hi := by have := hC.2.2.2.1; have := hC.2.1; omega) (hn := by have := hC.2.2.2.1; have := hC.2.1; omega); omega) ▸ hE2, (show k = 2 * N by have := hk_ge (2 * N) c_4 (hi := by have := hC.2.2.2.1; have := hC.2.1; omega) (hn := by have := hC.2.2.2.1; have := hC.2.1; omega); omega) ▸ hT2⟩, by rw [ht]; exact hP9, hD9⟩, hS.F ht⟩) hS.2.2 dX0_collectExposed_70
            · have c_4h : ¬ nI (2 * N) ≤ nI k := c_4
              refine lv_aload_n hx hb dX0_collectExposed_36 rfl (lv_at hl 2 rfl) ?_
              refine lv_iload_n hx hb dX0_collectExposed_37 rfl (lv_at hl 0 rfl) ?_
              refine hk_cml (wr := []) (va_runV (As := [.int (nI k)]) (rest := []) ⟨hx, hb, hml, hown, hts⟩ (c0_exposing l D g ti _ z q1 q2 q3 q4 q5 h1 h2 rc h4 h5 a t f1 f2 on ft fa fb fo n N o nm cd wt ty pa pb vo (nI k) hC hG hO) (cwV 1 hts gX0_collectExposed_X0_exposing rfl rfl rfl (by decide +kernel) ⟨Nat.le_of_ble_eq_true rfl, Nat.le_of_ble_eq_true rfl⟩) (hk_inV hE hP hD hS hA 0 rfl rfl [0, 1, 2, 3, 4, 5, 6, 7, 8, 9, 10] (by decide) rfl rfl) rfl rfl hl.1 rfl (lv_room (Nat.le_of_ble_eq_true rfl)) dX0_collectExposed_38 ⟨Nat.zero_le _, Nat.zero_le _⟩) hP hD hS hA [0, 1, 2, 3, 4, 5, 6, 7, 8, 9, 10] [] rfl rfl (by decide) (by decide) (fun r_5 ex H locs hr_6 hP hD hS => ?_)
              obtain ⟨ex1, ex2, ex4⟩ := ex
              try dsimp only at hr_6
              have hP : va_P D vwCl [(z, .inr (0, [.ref a, .ref q1, .ref q2, .ref q3, .ref q4, .ref q5])), (q1, .inl (g.2.2.1, 30, .inr (.inl ex1))), (q2, .inl (g.2.2.1, 6, .inr (.inl ex2))), (q3, .inl (g.2.2.1, 6, .inr (.inl rc))), (q4, .inl (g.2.2.1, 3, .inr (.inl ex4))), (q5, .inl (g.2.2.1, 64, .inr (.inl h5))), (a, .inr (1, [.ref t, .ref f1, .ref f2, .ref on, .int (nI n), .int (nI N), .int (nI o), .long nm, .int (nI cd), .int (nI wt)])), (t, .inl (g.2.1, 30, .inl ft)), (f1, .inl (g.2.1, 30, .inl fa)), (f2, .inl (g.2.1, 30, .inl fb)), (on, .inl (g.2.1, 6, .inl fo))] H := hP
              have hD : va_D A [(z, .inr (0, [.ref a, .ref q1, .ref q2, .ref q3, .ref q4, .ref q5])), (q1, .inl (g.2.2.1, 30, .inr (.inl ex1))), (q2, .inl (g.2.2.1, 6, .inr (.inl ex2))), (q3, .inl (g.2.2.1, 6, .inr (.inl rc))), (q4, .inl (g.2.2.1, 3, .inr (.inl ex4))), (q5, .inl (g.2.2.1, 64, .inr (.inl h5))), (a, .inr (1, [.ref t, .ref f1, .ref f2, .ref on, .int (nI n), .int (nI N), .int (nI o), .long nm, .int (nI cd), .int (nI wt)])), (t, .inl (g.2.1, 30, .inl ft)), (f1, .inl (g.2.1, 30, .inl fa)), (f2, .inl (g.2.1, 30, .inl fb)), (on, .inl (g.2.1, 6, .inl fo))] := hD
              refine lv_lstore (lv' := [(4, .long r_5), (3, .int (nI k)), (1, .long tb), (0, .ref z)]) hx hb dX0_collectExposed_41 hl (by decide) rfl (fun ls hl => ?_)
              refine lv_lload hx hb dX0_collectExposed_43 (lv_at hl 0 rfl) ?_
              refine lv_lconst (v := 0) hx hb dX0_collectExposed_45 (by decide) ?_
              refine W.lcmp hx hb dX0_collectExposed_46 ?_
              refine lv_if_eq (tgt := 63) hx hb dX0_collectExposed_47 (by decide) (fun c_7 => ?_) (fun c_7 => ?_)
              · have c_7h : (lg_cmp r_5 (0 : Int64)) = (0 : Int32) := c_7
                refine lv_iinc (v := (nI (k + 1))) (lv' := [(3, .int (nI (k + 1))), (4, .long r_5), (1, .long tb), (0, .ref z)]) hx hb dX0_collectExposed_63 hl (k := 1) rfl (nI_1 k) (by decide) rfl (fun ls hl => ?_)
                refine lv_goto (tgt := 25) hx hb dX0_collectExposed_66 (by decide) ?_
                have hlt : k < 2 * N := (hk_nge (2 * N) c_4 (hi := by have := hC.2.2.2.1; have := hC.2.1; omega) (hn := by have := hC.2.2.2.1; have := hC.2.1; omega))
                have hz : ∀ w, w < 64 → exB n o cd wt ty pa pb vo nm (nI k) w = false := fun w hw => by rw [← hr_6 w hw, (lg_0 _ _).mp c_7, lb_0]
                exact ih_25 (k + 1) tb ex1 ex2 ex4 h5 (by omega) (by omega) (fun w hw y hy => by rw [hE2 w hw y hy]; exact hk_ce1 (fun q => by rw [q]; exact hz w hw)) (fun y hy => by rw [hT2 y hy]; exact hk_ce1 (fun q => by rw [q]; exact hk_an0 hz)) _ _ hP hD hS _ (lv_sub hl [0, 2, 3] rfl)
              · have c_7h : ¬ (lg_cmp r_5 (0 : Int64)) = (0 : Int32) := c_7
                refine lv_lload_n hx hb dX0_collectExposed_50 rfl (lv_at hl 2 rfl) ?_
                refine lv_lconst (v := 1) hx hb dX0_collectExposed_51 (by decide) ?_
                refine lv_iload_n hx hb dX0_collectExposed_52 rfl (lv_at hl 1 rfl) ?_
                refine lv_lshl hx hb dX0_collectExposed_53 rfl ?_
                refine lv_lor hx hb dX0_collectExposed_54 ?_
                refine lv_lstore_n (lv' := [(1, .long (tb ||| ((1 : Int64) <<< ((nI k).toInt64 &&& 63)))), (4, .long r_5), (3, .int (nI k)), (0, .ref z)]) hx hb dX0_collectExposed_55 rfl hl (by decide) rfl (fun ls hl => ?_)
                refine lv_aload_n hx hb dX0_collectExposed_56 rfl (lv_at hl 3 rfl) ?_
                refine lv_iload_n hx hb dX0_collectExposed_57 rfl (lv_at hl 2 rfl) ?_
                refine lv_lload hx hb dX0_collectExposed_58 (lv_at hl 1 rfl) ?_
                refine hk_cmv (wr := [(q1, .inl (g.2.2.1, 30, .inr (.inl ex1))), (q2, .inl (g.2.2.1, 6, .inr (.inl ex2))), (q3, .inl (g.2.2.1, 6, .inr (.inl rc))), (q4, .inl (g.2.2.1, 3, .inr (.inl ex4))), (a, .inr (1, [.ref t, .ref f1, .ref f2, .ref on, .int (nI n), .int (nI N), .int (nI o), .long nm, .int (nI cd), .int (nI wt)])), (t, .inl (g.2.1, 30, .inl ft)), (f1, .inl (g.2.1, 30, .inl fa)), (f2, .inl (g.2.1, 30, .inl fb)), (on, .inl (g.2.1, 6, .inl fo))]) (va_runV (As := [.int (nI k), .long r_5]) (rest := []) ⟨hx, hb, hml, hown, hts⟩ (c0_addExposed l D g ti _ z (.ref a) (.ref q1) (.ref q2) (.ref q3) (.ref q4) q5 h5 k r_5 (by have := (hk_nge (2 * N) c_4 (hi := by have := hC.2.2.2.1; have := hC.2.1; omega) (hn := by have := hC.2.2.2.1; have := hC.2.1; omega)); have := hC.2.2.2.1; have := hC.2.1; omega)) (cwV 2 hts gX0_collectExposed_X0_addExposed rfl rfl rfl (by decide +kernel) ⟨Nat.le_of_ble_eq_true rfl, Nat.le_of_ble_eq_true rfl⟩) (hk_inV hE hP hD hS hA 0 rfl rfl [0, 5] (by decide) rfl rfl) rfl rfl hl.1 rfl (lv_room (Nat.le_of_ble_eq_true rfl)) dX0_collectExposed_60 ⟨Nat.zero_le _, Nat.zero_le _⟩) hP hD hS hA [0, 5] [1, 2, 3, 4, 6, 7, 8, 9, 10] rfl rfl (by decide) (by decide) (fun ae H locs hr_9 hP hD hS => ?_)
                try dsimp only at hr_9
                have hP : va_P D vwCl [(q1, .inl (g.2.2.1, 30, .inr (.inl ex1))), (q2, .inl (g.2.2.1, 6, .inr (.inl ex2))), (q3, .inl (g.2.2.1, 6, .inr (.inl rc))), (q4, .inl (g.2.2.1, 3, .inr (.inl ex4))), (a, .inr (1, [.ref t, .ref f1, .ref f2, .ref on, .int (nI n), .int (nI N), .int (nI o), .long nm, .int (nI cd), .int (nI wt)])), (t, .inl (g.2.1, 30, .inl ft)), (f1, .inl (g.2.1, 30, .inl fa)), (f2, .inl (g.2.1, 30, .inl fb)), (on, .inl (g.2.1, 6, .inl fo)), (z, .inr (0, [(.ref a), (.ref q1), (.ref q2), (.ref q3), (.ref q4), .ref q5])), (q5, .inl (g.2.2.1, 64, .inr (.inl ae)))] H := hP
                have hD : va_D A [(q1, .inl (g.2.2.1, 30, .inr (.inl ex1))), (q2, .inl (g.2.2.1, 6, .inr (.inl ex2))), (q3, .inl (g.2.2.1, 6, .inr (.inl rc))), (q4, .inl (g.2.2.1, 3, .inr (.inl ex4))), (a, .inr (1, [.ref t, .ref f1, .ref f2, .ref on, .int (nI n), .int (nI N), .int (nI o), .long nm, .int (nI cd), .int (nI wt)])), (t, .inl (g.2.1, 30, .inl ft)), (f1, .inl (g.2.1, 30, .inl fa)), (f2, .inl (g.2.1, 30, .inl fb)), (on, .inl (g.2.1, 6, .inl fo)), (z, .inr (0, [(.ref a), (.ref q1), (.ref q2), (.ref q3), (.ref q4), .ref q5])), (q5, .inl (g.2.2.1, 64, .inr (.inl ae)))] := hD
                refine lv_iinc (v := (nI (k + 1))) (lv' := [(3, .int (nI (k + 1))), (1, .long (tb ||| ((1 : Int64) <<< ((nI k).toInt64 &&& 63)))), (4, .long r_5), (0, .ref z)]) hx hb dX0_collectExposed_63 hl (k := 2) rfl (nI_1 k) (by decide) rfl (fun ls hl => ?_)
                refine lv_goto (tgt := 25) hx hb dX0_collectExposed_66 (by decide) ?_
                have hlt : k < 2 * N := (hk_nge (2 * N) c_4 (hi := by have := hC.2.2.2.1; have := hC.2.1; omega) (hn := by have := hC.2.2.2.1; have := hC.2.1; omega))
                exact ih_25 (k + 1) (tb ||| ((1 : Int64) <<< ((nI k).toInt64 &&& 63))) ex1 ex2 ex4 ae (by omega) (by omega) (fun w hw y hy => by rw [hr_9 w hw y hy, hE2 w hw y hy, hr_6 w hw]; exact hk_ce2) (fun y hy => by rw [lb_or, hT2 y hy, lb_shl1 (by have := hC.2.2.2.1; have := hC.2.1; omega) hy]; exact hk_ce3 (P := fun y => anB (exB n o cd wt ty pa pb vo nm (nI y)) 64) (fun q => by rw [q]; exact hk_an1 (fun w hw => (hr_6 w hw).symm) (fun q2 => c_7 ((lg_0 _ _).mpr q2)))) _ _ (hP.sub [9, 0, 1, 2, 3, 10, 4, 5, 6, 7, 8] rfl) (hD.sub [9, 0, 1, 2, 3, 10, 4, 5, 6, 7, 8] (by decide) rfl) hS _ (lv_sub hl [0, 1, 3] rfl)
        exact loop25 _ 0 0 nc oc tl eg (Nat.lt_succ_self _) (Nat.zero_le _) (fun w hw y hy => by rw [he w (by have := hk_ge 64 c_1; omega), lb_0]; rfl) (fun y hy => by rw [lb_0]; rfl) _ _ hP hD hS _ (lv_sub hl [0, 1, 2] rfl)
      · have c_1h : ¬ (64 : Int32) ≤ nI i := c_1
        refine lv_aload_n hx hb dX0_collectExposed_8 rfl (lv_at hl 1 rfl) ?_
        refine va_get (D := D) (ci := 0) (v := .ref q5) (C := RX0) (T := TX0) (N := 6) hx hb hts hi0 hown hK hP 0 rfl rfl 5 (by decide) (hts (.fieldLink RX0 24 "SelfCheckingCircuit$Analysis" "exposedFaults" "[J") (by decide +kernel)) (fun _ h9 => h9) rfl dX0_collectExposed_9 ?_
        refine lv_iload_n hx hb dX0_collectExposed_12 rfl (lv_at hl 0 rfl) ?_
        refine lv_lconst (v := 0) hx hb dX0_collectExposed_13 (by decide) ?_
        refine va_last hx hb hK hP hD hS 5 2 rfl rfl (vp_in_nI (N := 64) (hk_nge 64 c_1) (by decide)) dX0_collectExposed_14 (fun H locs hP hD hS => ?_)
        rw [show (nI i).toNatClampNeg = i from nI_clamp (by omega)] at hP hD
        have hP : va_P D vwCl [(z, .inr (0, [.ref a, .ref q1, .ref q2, .ref q3, .ref q4, .ref q5])), (q1, .inl (g.2.2.1, 30, .inr (.inl nc))), (q2, .inl (g.2.2.1, 6, .inr (.inl oc))), (q3, .inl (g.2.2.1, 6, .inr (.inl rc))), (q4, .inl (g.2.2.1, 3, .inr (.inl tl))), (q5, .inl (g.2.2.1, 64, .inr (.inl (vp_updL eg i 0)))), (a, .inr (1, [.ref t, .ref f1, .ref f2, .ref on, .int (nI n), .int (nI N), .int (nI o), .long nm, .int (nI cd), .int (nI wt)])), (t, .inl (g.2.1, 30, .inl ft)), (f1, .inl (g.2.1, 30, .inl fa)), (f2, .inl (g.2.1, 30, .inl fb)), (on, .inl (g.2.1, 6, .inl fo))] H := hP
        have hD : va_D A [(z, .inr (0, [.ref a, .ref q1, .ref q2, .ref q3, .ref q4, .ref q5])), (q1, .inl (g.2.2.1, 30, .inr (.inl nc))), (q2, .inl (g.2.2.1, 6, .inr (.inl oc))), (q3, .inl (g.2.2.1, 6, .inr (.inl rc))), (q4, .inl (g.2.2.1, 3, .inr (.inl tl))), (q5, .inl (g.2.2.1, 64, .inr (.inl (vp_updL eg i 0)))), (a, .inr (1, [.ref t, .ref f1, .ref f2, .ref on, .int (nI n), .int (nI N), .int (nI o), .long nm, .int (nI cd), .int (nI wt)])), (t, .inl (g.2.1, 30, .inl ft)), (f1, .inl (g.2.1, 30, .inl fa)), (f2, .inl (g.2.1, 30, .inl fb)), (on, .inl (g.2.1, 6, .inl fo))] := hD
        refine lv_iinc (v := (nI (i + 1))) (lv' := [(1, .int (nI (i + 1))), (0, .ref z)]) hx hb dX0_collectExposed_15 hl (k := 0) rfl (nI_1 i) (by decide) rfl (fun ls hl => ?_)
        refine lv_goto (tgt := 2) hx hb dX0_collectExposed_18 (by decide) ?_
        have hlt : i < 64 := hk_nge 64 c_1
        exact ih_2 (i + 1) (vp_updL eg i 0) (by omega) (by omega) (hk_upL (fun _ y => y = 0) he rfl) _ _ hP hD hS _ (lv_sub hl [0, 1] rfl)
  exact loop2 _ 0 ef (Nat.lt_succ_self _) (Nat.zero_le _) (fun _ h => absurd h (Nat.not_lt_zero _)) _ _ hP hD hS _ (lv_sub hl [0, 1] rfl)
/-- the greedy test of an index: the words' faults, the testable faults, then GR -/
def GT (N : Nat) (E : Int32 → Nat → Bool) (ix : Nat) (r : Int32) : Prop := ∃ (ef : Nat → Int64) (op : Int64), (∀ w, w < 64 → ∀ y, y < 64 → lb (ef w) y = (decide (y < 2 * N) && E (nI y) w)) ∧ (∀ y, y < 64 → lb op y = (decide (y < 2 * N) && anB (E (nI y)) 64)) ∧ GR ef ix op r
theorem ct_dec {P : Nat → Bool} {m : Nat} (h : ∀ y, y < 64 → P y = true → y < m) (hm : m ≤ 64) : ct P 64 ≤ m := by
  have h1 := ct_split P m (64 - m)
  rw [show m + (64 - m) = 64 by omega] at h1
  have h2 : ct (fun i => P (m + i)) (64 - m) = 0 := by
    apply Nat.eq_zero_of_not_pos
    intro q
    obtain ⟨i, hi, h3⟩ := ct_pos.mp q
    have := h (m + i) (by omega) h3
    omega
  have := ct_le P m
  omega
theorem op_0 {op : Int64} (h : ct (lb op) 64 = 0) : op = 0 := by
  apply lb_ext
  intro w hw
  rw [lb_0]
  cases hb : lb op w
  · rfl
  · have := ct_pos.mpr ⟨w, hw, hb⟩; omega
theorem gr_d {k d ix : Nat} (hd : k + d = ix) (h : ¬ nI k = nI ix) : 1 ≤ d := Nat.one_le_iff_ne_zero.mpr fun q => h (by rw [← hd, q, Nat.add_zero])
theorem gr_neg {c : Nat → Nat} {r : Int32} (h : isB c 64 r) (q : r < 0) : r = -104 := by
  rcases h with ⟨w, hw, -, -, -, rfl⟩ | ⟨-, h⟩
  · exact absurd q (nI_pos (by omega))
  · exact h
theorem gr_pos {c : Nat → Nat} {r : Int32} (h : isB c 64 r) (q : ¬ r < 0) : ∃ w, w < 64 ∧ r = nI w ∧ 0 < c w := by
  rcases h with ⟨w, hw, h1, -, -, rfl⟩ | ⟨-, h⟩
  · exact ⟨w, hw, rfl, h1⟩
  · exact absurd (by rw [h]; decide) q
set_option maxHeartbeats 4000000 in
set_option maxRecDepth 100000 in
theorem c0_greedyWord (l : Launch) (D : va_G) (g : hk_G) (ti : Nat) (sz : Nat) (z : Nat) (q1 : Nat) (q2 : Nat) (q3 : Nat) (q4 : Nat) (q5 : Nat) (nc : Nat → Int64) (oc : Nat → Int64) (rc : Nat → Int64) (tl : Nat → Int64) (ef : Nat → Int64) (a : Nat) (t : Nat) (f1 : Nat) (f2 : Nat) (on : Nat) (ft : Nat → Int32) (fa : Nat → Int32) (fb : Nat → Int32) (fo : Nat → Int32) (n : Nat) (N : Nat) (o : Nat) (nm : Int64) (cd : Nat) (wt : Nat) (ty : Nat → Nat) (pa : Nat → Nat) (pb : Nat → Nat) (vo : Nat → Nat) (ix : Nat) (hC : Cok n N o cd wt) (hG : Gok n N ty pa pb ft fa fb) (hO : Ook N o vo fo) (hix : ix < 2 ^ 31) : Met l yX0_greedyWord wsX0_greedyWord ({ frames := 5, cells := 0, slots := 0, locals := 120 }) (va_Pc [.ref z, .int (nI ix)] (hk_In D g ti [(z, .inr (0, [.ref a, .ref q1, .ref q2, .ref q3, .ref q4, .ref q5])), (q1, .inl (g.2.2.1, 30, .inr (.inl nc))), (q2, .inl (g.2.2.1, 6, .inr (.inl oc))), (q3, .inl (g.2.2.1, 6, .inr (.inl rc))), (q4, .inl (g.2.2.1, 3, .inr (.inl tl))), (q5, .inl (g.2.2.1, 64, .inr (.inl ef))), (a, .inr (1, [.ref t, .ref f1, .ref f2, .ref on, .int (nI n), .int (nI N), .int (nI o), .long nm, .int (nI cd), .int (nI wt)])), (t, .inl (g.2.1, 30, .inl ft)), (f1, .inl (g.2.1, 30, .inl fa)), (f2, .inl (g.2.1, 30, .inl fb)), (on, .inl (g.2.1, 6, .inl fo))] sz)) (va_Qi (S := (Nat → Int64) × (Nat → Int64) × (Nat → Int64) × (Nat → Int64)) (fun r _ => GT N (exB n o cd wt ty pa pb vo nm) ix r) (fun u => hk_Out D (va_A [(z, .inr (0, [.ref a, .ref q1, .ref q2, .ref q3, .ref q4, .ref q5])), (q1, .inl (g.2.2.1, 30, .inr (.inl nc))), (q2, .inl (g.2.2.1, 6, .inr (.inl oc))), (q3, .inl (g.2.2.1, 6, .inr (.inl rc))), (q4, .inl (g.2.2.1, 3, .inr (.inl tl))), (q5, .inl (g.2.2.1, 64, .inr (.inl ef))), (a, .inr (1, [.ref t, .ref f1, .ref f2, .ref on, .int (nI n), .int (nI N), .int (nI o), .long nm, .int (nI cd), .int (nI wt)])), (t, .inl (g.2.1, 30, .inl ft)), (f1, .inl (g.2.1, 30, .inl fa)), (f2, .inl (g.2.1, 30, .inl fb)), (on, .inl (g.2.1, 6, .inl fo))] sz) (match u with | (g1, g2, g4, g5) => [(z, .inr (0, [.ref a, .ref q1, .ref q2, .ref q3, .ref q4, .ref q5])), (q1, .inl (g.2.2.1, 30, .inr (.inl g1))), (q2, .inl (g.2.2.1, 6, .inr (.inl g2))), (q3, .inl (g.2.2.1, 6, .inr (.inl rc))), (q4, .inl (g.2.2.1, 3, .inr (.inl g4))), (q5, .inl (g.2.2.1, 64, .inr (.inl g5))), (a, .inr (1, [.ref t, .ref f1, .ref f2, .ref on, .int (nI n), .int (nI N), .int (nI o), .long nm, .int (nI cd), .int (nI wt)])), (t, .inl (g.2.1, 30, .inl ft)), (f1, .inl (g.2.1, 30, .inl fa)), (f2, .inl (g.2.1, 30, .inl fb)), (on, .inl (g.2.1, 6, .inl fo))])) (va_A [(z, .inr (0, [.ref a, .ref q1, .ref q2, .ref q3, .ref q4, .ref q5])), (q1, .inl (g.2.2.1, 30, .inr (.inl nc))), (q2, .inl (g.2.2.1, 6, .inr (.inl oc))), (q3, .inl (g.2.2.1, 6, .inr (.inl rc))), (q4, .inl (g.2.2.1, 3, .inr (.inl tl))), (q5, .inl (g.2.2.1, 64, .inr (.inl ef))), (a, .inr (1, [.ref t, .ref f1, .ref f2, .ref on, .int (nI n), .int (nI N), .int (nI o), .long nm, .int (nI cd), .int (nI wt)])), (t, .inl (g.2.1, 30, .inl ft)), (f1, .inl (g.2.1, 30, .inl fa)), (f2, .inl (g.2.1, 30, .inl fb)), (on, .inl (g.2.1, 6, .inl fo))] sz)) 0 0 (va_A [(z, .inr (0, [.ref a, .ref q1, .ref q2, .ref q3, .ref q4, .ref q5])), (q1, .inl (g.2.2.1, 30, .inr (.inl nc))), (q2, .inl (g.2.2.1, 6, .inr (.inl oc))), (q3, .inl (g.2.2.1, 6, .inr (.inl rc))), (q4, .inl (g.2.2.1, 3, .inr (.inl tl))), (q5, .inl (g.2.2.1, 64, .inr (.inl ef))), (a, .inr (1, [.ref t, .ref f1, .ref f2, .ref on, .int (nI n), .int (nI N), .int (nI o), .long nm, .int (nI cd), .int (nI wt)])), (t, .inl (g.2.1, 30, .inl ft)), (f1, .inl (g.2.1, 30, .inl fa)), (f2, .inl (g.2.1, 30, .inl fb)), (on, .inl (g.2.1, 6, .inl fo))] sz) := by
  refine Met.ofW (cc := cX0_greedyWord) (maxL := 6) (ret := (some .int)) (by decide) rfl ?_
  intro p e s m args below meth c s₁ Bd hml hv
  obtain ⟨rfl, hsz, hP, hD0, hE⟩ := hv
  have hx := Bd.exec
  have hb := Bd.bytes
  have hr := Bd.returns
  have hts := atoms_spec (ws := wsX0_greedyWord) Bd.pre
  have hown : s.vm.findClass RX0 = some m.cls := findClass_of_methodNamed Bd.named
  have hlocks := Bd.notSynchronized
  have hK := hE.1
  have hi0 : ∀ w ∈ wsX00, w ∈ wsX0_greedyWord := fun w h => List.mem_cons_of_mem _ (List.mem_append_left _ (List.mem_append_right _ h))
  subst hsz
  have hD := hD0.self (sz := s.heap.size)
  generalize hAe : va_A [(z, .inr (0, [.ref a, .ref q1, .ref q2, .ref q3, .ref q4, .ref q5])), (q1, .inl (g.2.2.1, 30, .inr (.inl nc))), (q2, .inl (g.2.2.1, 6, .inr (.inl oc))), (q3, .inl (g.2.2.1, 6, .inr (.inl rc))), (q4, .inl (g.2.2.1, 3, .inr (.inl tl))), (q5, .inl (g.2.2.1, 64, .inr (.inl ef))), (a, .inr (1, [.ref t, .ref f1, .ref f2, .ref on, .int (nI n), .int (nI N), .int (nI o), .long nm, .int (nI cd), .int (nI wt)])), (t, .inl (g.2.1, 30, .inl ft)), (f1, .inl (g.2.1, 30, .inl fa)), (f2, .inl (g.2.1, 30, .inl fb)), (on, .inl (g.2.1, 6, .inl fo))] s.heap.size = A at hD hE ⊢
  have hA : ∀ q : Nat, s.heap.size ≤ q → A q := fun q h => by rw [← hAe]; exact Or.inr h
  have hS : va_S A s.heap s.heap [] := va_S.rf
  have hl := lv_entry ([.ref z, .int (nI ix)]) (n := 6) (Nat.le_of_ble_eq_true rfl)
  rw [lg_entry_eq]
  generalize (lg_sl ([.ref z, .int (nI ix)]) ++ List.replicate (6 - (lg_sl ([.ref z, .int (nI ix)])).length) Slot.unset).toArray = ls at hl ⊢
  have hl : lv_has ls 6 [(0, .ref z), (1, .int (nI ix))] := hl
  refine lv_aload_n hx hb dX0_greedyWord_0 rfl (lv_at hl 0 rfl) ?_
  refine hk_cml (wr := []) (va_runV (As := []) (rest := []) ⟨hx, hb, hml, hown, hts⟩ (c0_collectExposed l D g ti _ z q1 q2 q3 q4 q5 nc oc rc tl ef a t f1 f2 on ft fa fb fo n N o nm cd wt ty pa pb vo hC hG hO) (cwV 0 hts gX0_greedyWord_X0_collectExposed rfl rfl rfl (by decide +kernel) ⟨Nat.le_of_ble_eq_true rfl, Nat.le_of_ble_eq_true rfl⟩) (hk_inV hE hP hD hS hA 0 rfl rfl [0, 1, 2, 3, 4, 5, 6, 7, 8, 9, 10] (by decide) rfl rfl) rfl rfl hl.1 rfl (lv_room (Nat.le_of_ble_eq_true rfl)) dX0_greedyWord_1 ⟨Nat.zero_le _, Nat.zero_le _⟩) hP hD hS hA [0, 1, 2, 3, 4, 5, 6, 7, 8, 9, 10] [] rfl rfl (by decide) (by decide) (fun op0 ce H locs hr_1 hP hD hS => ?_)
  obtain ⟨ce1, ce2, ce4, ce5⟩ := ce
  try dsimp only at hr_1
  have hP : va_P D vwCl [(z, .inr (0, [.ref a, .ref q1, .ref q2, .ref q3, .ref q4, .ref q5])), (q1, .inl (g.2.2.1, 30, .inr (.inl ce1))), (q2, .inl (g.2.2.1, 6, .inr (.inl ce2))), (q3, .inl (g.2.2.1, 6, .inr (.inl rc))), (q4, .inl (g.2.2.1, 3, .inr (.inl ce4))), (q5, .inl (g.2.2.1, 64, .inr (.inl ce5))), (a, .inr (1, [.ref t, .ref f1, .ref f2, .ref on, .int (nI n), .int (nI N), .int (nI o), .long nm, .int (nI cd), .int (nI wt)])), (t, .inl (g.2.1, 30, .inl ft)), (f1, .inl (g.2.1, 30, .inl fa)), (f2, .inl (g.2.1, 30, .inl fb)), (on, .inl (g.2.1, 6, .inl fo))] H := hP
  have hD : va_D A [(z, .inr (0, [.ref a, .ref q1, .ref q2, .ref q3, .ref q4, .ref q5])), (q1, .inl (g.2.2.1, 30, .inr (.inl ce1))), (q2, .inl (g.2.2.1, 6, .inr (.inl ce2))), (q3, .inl (g.2.2.1, 6, .inr (.inl rc))), (q4, .inl (g.2.2.1, 3, .inr (.inl ce4))), (q5, .inl (g.2.2.1, 64, .inr (.inl ce5))), (a, .inr (1, [.ref t, .ref f1, .ref f2, .ref on, .int (nI n), .int (nI N), .int (nI o), .long nm, .int (nI cd), .int (nI wt)])), (t, .inl (g.2.1, 30, .inl ft)), (f1, .inl (g.2.1, 30, .inl fa)), (f2, .inl (g.2.1, 30, .inl fb)), (on, .inl (g.2.1, 6, .inl fo))] := hD
  refine lv_lstore_n (lv' := [(2, .long op0), (0, .ref z), (1, .int (nI ix))]) hx hb dX0_greedyWord_4 rfl hl (by decide) rfl (fun ls hl => ?_)
  refine lv_iconst (v := 0) hx hb dX0_greedyWord_5 (by decide) ?_
  refine lv_istore (lv' := [(4, .int 0), (2, .long op0), (0, .ref z), (1, .int (nI ix))]) hx hb dX0_greedyWord_6 hl (by decide) rfl (fun ls hl => ?_)
  have loop8 : ∀ (fuel : Nat) (k : Nat) (d : Nat) (op : Int64), (2 * N - k) < fuel → (k ≤ 2 * N) → (k + d = ix) → (ct (lb op) 64 ≤ 2 * N - k) → (∀ r, GR ce5 d op r → GR ce5 ix op0 r) → ∀ (H : Heap) (locs : List Loc), va_P D vwCl [(z, .inr (0, [.ref a, .ref q1, .ref q2, .ref q3, .ref q4, .ref q5])), (q1, .inl (g.2.2.1, 30, .inr (.inl ce1))), (q2, .inl (g.2.2.1, 6, .inr (.inl ce2))), (q3, .inl (g.2.2.1, 6, .inr (.inl rc))), (q4, .inl (g.2.2.1, 3, .inr (.inl ce4))), (q5, .inl (g.2.2.1, 64, .inr (.inl ce5))), (a, .inr (1, [.ref t, .ref f1, .ref f2, .ref on, .int (nI n), .int (nI N), .int (nI o), .long nm, .int (nI cd), .int (nI wt)])), (t, .inl (g.2.1, 30, .inl ft)), (f1, .inl (g.2.1, 30, .inl fa)), (f2, .inl (g.2.1, 30, .inl fb)), (on, .inl (g.2.1, 6, .inl fo))] H → va_D A [(z, .inr (0, [.ref a, .ref q1, .ref q2, .ref q3, .ref q4, .ref q5])), (q1, .inl (g.2.2.1, 30, .inr (.inl ce1))), (q2, .inl (g.2.2.1, 6, .inr (.inl ce2))), (q3, .inl (g.2.2.1, 6, .inr (.inl rc))), (q4, .inl (g.2.2.1, 3, .inr (.inl ce4))), (q5, .inl (g.2.2.1, 64, .inr (.inl ce5))), (a, .inr (1, [.ref t, .ref f1, .ref f2, .ref on, .int (nI n), .int (nI N), .int (nI o), .long nm, .int (nI cd), .int (nI wt)])), (t, .inl (g.2.1, 30, .inl ft)), (f1, .inl (g.2.1, 30, .inl fa)), (f2, .inl (g.2.1, 30, .inl fb)), (on, .inl (g.2.1, 6, .inl fo))] → va_S A s.heap H locs → ∀ ls : Array Slot, lv_has ls 6 [(4, .int (nI k)), (2, .long op), (0, .ref z), (1, .int (nI ix))] → W p l e (headSpec wsX0_greedyWord ({ frames := 5, cells := 0, slots := 0, locals := 120 })).room s m ([.ref z, .int (nI ix)] : List Value).toArray below meth c H locs 0 0 (MQ below (va_Qi (S := (Nat → Int64) × (Nat → Int64) × (Nat → Int64) × (Nat → Int64)) (fun r _ => GT N (exB n o cd wt ty pa pb vo nm) ix r) (fun u => hk_Out D A (match u with | (g1, g2, g4, g5) => [(z, .inr (0, [.ref a, .ref q1, .ref q2, .ref q3, .ref q4, .ref q5])), (q1, .inl (g.2.2.1, 30, .inr (.inl g1))), (q2, .inl (g.2.2.1, 6, .inr (.inl g2))), (q3, .inl (g.2.2.1, 6, .inr (.inl rc))), (q4, .inl (g.2.2.1, 3, .inr (.inl g4))), (q5, .inl (g.2.2.1, 64, .inr (.inl g5))), (a, .inr (1, [.ref t, .ref f1, .ref f2, .ref on, .int (nI n), .int (nI N), .int (nI o), .long nm, .int (nI cd), .int (nI wt)])), (t, .inl (g.2.1, 30, .inl ft)), (f1, .inl (g.2.1, 30, .inl fa)), (f2, .inl (g.2.1, 30, .inl fb)), (on, .inl (g.2.1, 6, .inl fo))])) A) ([.ref z, .int (nI ix)] : List Value).toArray s 0 0 A) (F0 m 8 ls []) := by
    intro fuel
    induction fuel with
    | zero => intro k d op hm; exact absurd hm (Nat.not_lt_zero _)
    | succ fuel ih_8 =>
      intro k d op hm_8 hk hd ho2 hG2 H locs hP hD hS ls hl
      refine lv_iload hx hb dX0_greedyWord_8 (lv_at hl 0 rfl) ?_
      refine lv_aload_n hx hb dX0_greedyWord_10 rfl (lv_at hl 2 rfl) ?_
      refine va_get (D := D) (ci := 0) (v := .ref a) (C := RX0) (T := TX0) (N := 6) hx hb hts hi0 hown hK hP 0 rfl rfl 0 (by decide) (hts (.fieldLink RX0 27 "SelfCheckingCircuit$Analysis" "circuit" "LSelfCheckingCircuit$Circuit;") (by decide +kernel)) (fun _ h9 => h9) rfl dX0_greedyWord_11 ?_
      refine hk_csi (va_runVN (As := []) (rest := [.int (nI k)]) ⟨hx, hb, hml, hown, hts⟩ (c1_faults l D g ti a (.ref t) (.ref f1) (.ref f2) (.ref on) (nI n) (nI N) (nI o) nm (nI cd) (nI wt) ) ⟨va_cnB 0 hts gX0_greedyWord_X1_faults_n75 rfl rfl rfl (nm_X0_75 hE.2.1) (hts (.initialized RX1) (by decide +kernel)) (by decide +kernel) ⟨Nat.le_of_ble_eq_true rfl, Nat.le_of_ble_eq_true rfl⟩, hts (.instanceMethod yX1_faults) (by decide +kernel), hts (.selects RX1 yX1_faults yX1_faults) (by decide +kernel)⟩ (hk_roV hE hP hS 1 rfl rfl [6] rfl rfl) rfl rfl hl.1 rfl (lv_room (Nat.le_of_ble_eq_true rfl)) dX0_greedyWord_14 ⟨Nat.zero_le _, Nat.zero_le _⟩) (fun r_2 hr_3 => ?_)
      subst hr_3
      refine hk_ti (nI (2 * N)) (pk_mul 2 N) ?_
      refine lv_icmp_ge (tgt := 74) hx hb dX0_greedyWord_17 (by decide) (fun c_4 => ?_) (fun c_4 => ?_)
      · have c_4h : nI (2 * N) ≤ nI k := c_4
        refine lv_bipush (v := (-104)) hx hb dX0_greedyWord_74 (by decide) ?_
        have hP9 := hP.sub (ws' := [(z, .inr (0, [.ref a, .ref q1, .ref q2, .ref q3, .ref q4, .ref q5])), (q1, .inl (g.2.2.1, 30, .inr (.inl ce1))), (q2, .inl (g.2.2.1, 6, .inr (.inl ce2))), (q3, .inl (g.2.2.1, 6, .inr (.inl rc))), (q4, .inl (g.2.2.1, 3, .inr (.inl ce4))), (q5, .inl (g.2.2.1, 64, .inr (.inl ce5))), (a, .inr (1, [.ref t, .ref f1, .ref f2, .ref on, .int (nI n), .int (nI N), .int (nI o), .long nm, .int (nI cd), .int (nI wt)])), (t, .inl (g.2.1, 30, .inl ft)), (f1, .inl (g.2.1, 30, .inl fa)), (f2, .inl (g.2.1, 30, .inl fb)), (on, .inl (g.2.1, 6, .inl fo))]) [0, 1, 2, 3, 4, 5, 6, 7, 8, 9, 10] rfl
        have hD9 := hD.sub (ws' := [(z, .inr (0, [.ref a, .ref q1, .ref q2, .ref q3, .ref q4, .ref q5])), (q1, .inl (g.2.2.1, 30, .inr (.inl ce1))), (q2, .inl (g.2.2.1, 6, .inr (.inl ce2))), (q3, .inl (g.2.2.1, 6, .inr (.inl rc))), (q4, .inl (g.2.2.1, 3, .inr (.inl ce4))), (q5, .inl (g.2.2.1, 64, .inr (.inl ce5))), (a, .inr (1, [.ref t, .ref f1, .ref f2, .ref on, .int (nI n), .int (nI N), .int (nI o), .long nm, .int (nI cd), .int (nI wt)])), (t, .inl (g.2.1, 30, .inl ft)), (f1, .inl (g.2.1, 30, .inl fa)), (f2, .inl (g.2.1, 30, .inl fb)), (on, .inl (g.2.1, 6, .inl fo))]) [0, 1, 2, 3, 4, 5, 6, 7, 8, 9, 10] (by decide) rfl
        exact W.iret (v := (-104)) hx hb hr (fun tt ht hW => ⟨⟨_, (ce1, ce2, ce4, ce5), rfl, ⟨ce5, op0, hr_1.1, hr_1.2, hG2 _ (GR_0 (op_0 (by have := hk_ge (2 * N) c_4 (hi := by have := hC.2.2.2.1; have := hC.2.1; omega) (hn := by have := hC.2.2.2.1; have := hC.2.1; omega); omega)) d)⟩, by rw [ht]; exact hP9, hD9⟩, hS.F ht⟩) hS.2.2 dX0_greedyWord_76
      · have c_4h : ¬ nI (2 * N) ≤ nI k := c_4
        refine lv_lload_n hx hb dX0_greedyWord_20 rfl (lv_at hl 1 rfl) ?_
        refine lv_lconst (v := 0) hx hb dX0_greedyWord_21 (by decide) ?_
        refine W.lcmp hx hb dX0_greedyWord_22 ?_
        refine lv_if_eq (tgt := 74) hx hb dX0_greedyWord_23 (by decide) (fun c_5 => ?_) (fun c_5 => ?_)
        · have c_5h : (lg_cmp op (0 : Int64)) = (0 : Int32) := c_5
          refine lv_bipush (v := (-104)) hx hb dX0_greedyWord_74 (by decide) ?_
          have hP9 := hP.sub (ws' := [(z, .inr (0, [.ref a, .ref q1, .ref q2, .ref q3, .ref q4, .ref q5])), (q1, .inl (g.2.2.1, 30, .inr (.inl ce1))), (q2, .inl (g.2.2.1, 6, .inr (.inl ce2))), (q3, .inl (g.2.2.1, 6, .inr (.inl rc))), (q4, .inl (g.2.2.1, 3, .inr (.inl ce4))), (q5, .inl (g.2.2.1, 64, .inr (.inl ce5))), (a, .inr (1, [.ref t, .ref f1, .ref f2, .ref on, .int (nI n), .int (nI N), .int (nI o), .long nm, .int (nI cd), .int (nI wt)])), (t, .inl (g.2.1, 30, .inl ft)), (f1, .inl (g.2.1, 30, .inl fa)), (f2, .inl (g.2.1, 30, .inl fb)), (on, .inl (g.2.1, 6, .inl fo))]) [0, 1, 2, 3, 4, 5, 6, 7, 8, 9, 10] rfl
          have hD9 := hD.sub (ws' := [(z, .inr (0, [.ref a, .ref q1, .ref q2, .ref q3, .ref q4, .ref q5])), (q1, .inl (g.2.2.1, 30, .inr (.inl ce1))), (q2, .inl (g.2.2.1, 6, .inr (.inl ce2))), (q3, .inl (g.2.2.1, 6, .inr (.inl rc))), (q4, .inl (g.2.2.1, 3, .inr (.inl ce4))), (q5, .inl (g.2.2.1, 64, .inr (.inl ce5))), (a, .inr (1, [.ref t, .ref f1, .ref f2, .ref on, .int (nI n), .int (nI N), .int (nI o), .long nm, .int (nI cd), .int (nI wt)])), (t, .inl (g.2.1, 30, .inl ft)), (f1, .inl (g.2.1, 30, .inl fa)), (f2, .inl (g.2.1, 30, .inl fb)), (on, .inl (g.2.1, 6, .inl fo))]) [0, 1, 2, 3, 4, 5, 6, 7, 8, 9, 10] (by decide) rfl
          exact W.iret (v := (-104)) hx hb hr (fun tt ht hW => ⟨⟨_, (ce1, ce2, ce4, ce5), rfl, ⟨ce5, op0, hr_1.1, hr_1.2, hG2 _ (GR_0 ((lg_0 _ _).mp c_5) d)⟩, by rw [ht]; exact hP9, hD9⟩, hS.F ht⟩) hS.2.2 dX0_greedyWord_76
        · have c_5h : ¬ (lg_cmp op (0 : Int64)) = (0 : Int32) := c_5
          refine lv_aload_n hx hb dX0_greedyWord_26 rfl (lv_at hl 2 rfl) ?_
          refine lv_lload_n hx hb dX0_greedyWord_27 rfl (lv_at hl 1 rfl) ?_
          refine hk_csi (va_runV (As := [.long op]) (rest := []) ⟨hx, hb, hml, hown, hts⟩ (c0_bestWord l D g ti z (.ref a) (.ref q1) (.ref q2) (.ref q3) (.ref q4) q5 ce5 op ) (cwV 1 hts gX0_greedyWord_X0_bestWord rfl rfl rfl (by decide +kernel) ⟨Nat.le_of_ble_eq_true rfl, Nat.le_of_ble_eq_true rfl⟩) (hk_roV hE hP hS 0 rfl rfl [0, 5] rfl rfl) rfl rfl hl.1 rfl (lv_room (Nat.le_of_ble_eq_true rfl)) dX0_greedyWord_28 ⟨Nat.zero_le _, Nat.zero_le _⟩) (fun bw hr_6 => ?_)
          have hib : isB (cO ce5 op) 64 bw := hr_6
          refine lv_istore (lv' := [(5, .int bw), (4, .int (nI k)), (2, .long op), (0, .ref z), (1, .int (nI ix))]) hx hb dX0_greedyWord_31 hl (by decide) rfl (fun ls hl => ?_)
          refine lv_iload hx hb dX0_greedyWord_33 (lv_at hl 1 rfl) ?_
          refine lv_iload_n hx hb dX0_greedyWord_35 rfl (lv_at hl 4 rfl) ?_
          refine lv_icmp_eq (tgt := 51) hx hb dX0_greedyWord_36 (by decide) (fun c_7 => ?_) (fun c_7 => ?_)
          · have c_7h : nI k = nI ix := c_7
            refine lv_iload hx hb dX0_greedyWord_51 (lv_at hl 0 rfl) ?_
            have hP9 := hP.sub (ws' := [(z, .inr (0, [.ref a, .ref q1, .ref q2, .ref q3, .ref q4, .ref q5])), (q1, .inl (g.2.2.1, 30, .inr (.inl ce1))), (q2, .inl (g.2.2.1, 6, .inr (.inl ce2))), (q3, .inl (g.2.2.1, 6, .inr (.inl rc))), (q4, .inl (g.2.2.1, 3, .inr (.inl ce4))), (q5, .inl (g.2.2.1, 64, .inr (.inl ce5))), (a, .inr (1, [.ref t, .ref f1, .ref f2, .ref on, .int (nI n), .int (nI N), .int (nI o), .long nm, .int (nI cd), .int (nI wt)])), (t, .inl (g.2.1, 30, .inl ft)), (f1, .inl (g.2.1, 30, .inl fa)), (f2, .inl (g.2.1, 30, .inl fb)), (on, .inl (g.2.1, 6, .inl fo))]) [0, 1, 2, 3, 4, 5, 6, 7, 8, 9, 10] rfl
            have hD9 := hD.sub (ws' := [(z, .inr (0, [.ref a, .ref q1, .ref q2, .ref q3, .ref q4, .ref q5])), (q1, .inl (g.2.2.1, 30, .inr (.inl ce1))), (q2, .inl (g.2.2.1, 6, .inr (.inl ce2))), (q3, .inl (g.2.2.1, 6, .inr (.inl rc))), (q4, .inl (g.2.2.1, 3, .inr (.inl ce4))), (q5, .inl (g.2.2.1, 64, .inr (.inl ce5))), (a, .inr (1, [.ref t, .ref f1, .ref f2, .ref on, .int (nI n), .int (nI N), .int (nI o), .long nm, .int (nI cd), .int (nI wt)])), (t, .inl (g.2.1, 30, .inl ft)), (f1, .inl (g.2.1, 30, .inl fa)), (f2, .inl (g.2.1, 30, .inl fb)), (on, .inl (g.2.1, 6, .inl fo))]) [0, 1, 2, 3, 4, 5, 6, 7, 8, 9, 10] (by decide) rfl
            exact W.iret (v := bw) hx hb hr (fun tt ht hW => ⟨⟨_, (ce1, ce2, ce4, ce5), rfl, ⟨ce5, op0, hr_1.1, hr_1.2, hG2 _ (by rw [show d = 0 by have := nI_inj c_7 (by have := hC.2.2.2.1; have := hC.2.1; omega) hix; omega]; exact hib)⟩, by rw [ht]; exact hP9, hD9⟩, hS.F ht⟩) hS.2.2 dX0_greedyWord_53
          · have c_7h : ¬ nI k = nI ix := c_7
            refine lv_iload hx hb dX0_greedyWord_39 (lv_at hl 0 rfl) ?_
            refine lv_if_lt (tgt := 51) hx hb dX0_greedyWord_41 (by decide) (fun c_8 => ?_) (fun c_8 => ?_)
            · have c_8h : bw < (0 : Int32) := c_8
              refine lv_iload hx hb dX0_greedyWord_51 (lv_at hl 0 rfl) ?_
              have hP9 := hP.sub (ws' := [(z, .inr (0, [.ref a, .ref q1, .ref q2, .ref q3, .ref q4, .ref q5])), (q1, .inl (g.2.2.1, 30, .inr (.inl ce1))), (q2, .inl (g.2.2.1, 6, .inr (.inl ce2))), (q3, .inl (g.2.2.1, 6, .inr (.inl rc))), (q4, .inl (g.2.2.1, 3, .inr (.inl ce4))), (q5, .inl (g.2.2.1, 64, .inr (.inl ce5))), (a, .inr (1, [.ref t, .ref f1, .ref f2, .ref on, .int (nI n), .int (nI N), .int (nI o), .long nm, .int (nI cd), .int (nI wt)])), (t, .inl (g.2.1, 30, .inl ft)), (f1, .inl (g.2.1, 30, .inl fa)), (f2, .inl (g.2.1, 30, .inl fb)), (on, .inl (g.2.1, 6, .inl fo))]) [0, 1, 2, 3, 4, 5, 6, 7, 8, 9, 10] rfl
              have hD9 := hD.sub (ws' := [(z, .inr (0, [.ref a, .ref q1, .ref q2, .ref q3, .ref q4, .ref q5])), (q1, .inl (g.2.2.1, 30, .inr (.inl ce1))), (q2, .inl (g.2.2.1, 6, .inr (.inl ce2))), (q3, .inl (g.2.2.1, 6, .inr (.inl rc))), (q4, .inl (g.2.2.1, 3, .inr (.inl ce4))), (q5, .inl (g.2.2.1, 64, .inr (.inl ce5))), (a, .inr (1, [.ref t, .ref f1, .ref f2, .ref on, .int (nI n), .int (nI N), .int (nI o), .long nm, .int (nI cd), .int (nI wt)])), (t, .inl (g.2.1, 30, .inl ft)), (f1, .inl (g.2.1, 30, .inl fa)), (f2, .inl (g.2.1, 30, .inl fb)), (on, .inl (g.2.1, 6, .inl fo))]) [0, 1, 2, 3, 4, 5, 6, 7, 8, 9, 10] (by decide) rfl
              exact W.iret (v := bw) hx hb hr (fun tt ht hW => ⟨⟨_, (ce1, ce2, ce4, ce5), rfl, ⟨ce5, op0, hr_1.1, hr_1.2, hG2 _ (by rw [show d = (d - 1) + 1 by have := gr_d hd c_7; omega]; exact Or.inr ⟨gr_neg hib c_8 ▸ hib, gr_neg hib c_8⟩)⟩, by rw [ht]; exact hP9, hD9⟩, hS.F ht⟩) hS.2.2 dX0_greedyWord_53
            · have c_8h : ¬ bw < (0 : Int32) := c_8
              refine lv_iload hx hb dX0_greedyWord_44 (lv_at hl 0 rfl) ?_
              refine lv_bipush (v := 64) hx hb dX0_greedyWord_46 (by decide) ?_
              refine lv_icmp_lt (tgt := 54) hx hb dX0_greedyWord_48 (by decide) (fun c_9 => ?_) (fun c_9 => ?_)
              · have c_9h : bw < (64 : Int32) := c_9
                obtain ⟨wb, hwb, rwb, hcw⟩ := gr_pos hib c_8
                refine lv_lload_n hx hb dX0_greedyWord_54 rfl (lv_at hl 2 rfl) ?_
                refine lv_aload_n hx hb dX0_greedyWord_55 rfl (lv_at hl 3 rfl) ?_
                refine va_get (D := D) (ci := 0) (v := .ref q5) (C := RX0) (T := TX0) (N := 6) hx hb hts hi0 hown hK hP 0 rfl rfl 5 (by decide) (hts (.fieldLink RX0 24 "SelfCheckingCircuit$Analysis" "exposedFaults" "[J") (by decide +kernel)) (fun _ h9 => h9) rfl dX0_greedyWord_56 ?_
                refine lv_iload hx hb dX0_greedyWord_59 (lv_at hl 0 rfl) ?_
                refine va_lald hx hb hK hP 5 2 rfl rfl (by rw [rwb]; exact vp_in_nI (N := 64) hwb (by decide)) dX0_greedyWord_61 ?_
                refine hk_tl (ce5 wb) (congrArg ce5 (by rw [rwb]; exact nI_clamp (by omega))) ?_
                refine lv_ldc2 (own := RX0) (v := (-1)) hx hb hown (hts (.constantLong RX0 56 (-1)) (by decide +kernel)) dX0_greedyWord_62 ?_
                refine lv_lxor hx hb dX0_greedyWord_65 ?_
                refine lv_land hx hb dX0_greedyWord_66 ?_
                refine lv_lstore_n (lv' := [(2, .long (op &&& ((ce5 wb) ^^^ (-1 : Int64)))), (5, .int bw), (4, .int (nI k)), (0, .ref z), (1, .int (nI ix))]) hx hb dX0_greedyWord_67 rfl hl (by decide) rfl (fun ls hl => ?_)
                refine lv_iinc (v := (nI (k + 1))) (lv' := [(4, .int (nI (k + 1))), (2, .long (op &&& ((ce5 wb) ^^^ (-1 : Int64)))), (5, .int bw), (0, .ref z), (1, .int (nI ix))]) hx hb dX0_greedyWord_68 hl (k := 2) rfl (nI_1 k) (by decide) rfl (fun ls hl => ?_)
                refine lv_goto (tgt := 8) hx hb dX0_greedyWord_71 (by decide) ?_
                have hlt : k < 2 * N := (hk_nge (2 * N) c_4 (hi := by have := hC.2.2.2.1; have := hC.2.1; omega) (hn := by have := hC.2.2.2.1; have := hC.2.1; omega))
                have hdx : 1 ≤ d := gr_d hd c_7
                exact ih_8 (k + 1) (d - 1) (op &&& (ce5 wb ^^^ (-1))) (by omega) (by omega) (by omega) (by have := op_lt (ef := ce5) hcw; omega) (fun r hr => hG2 r (by rw [show d = (d - 1) + 1 by omega]; exact Or.inl ⟨wb, hwb, rwb ▸ hib, hr⟩)) _ _ hP hD hS _ (lv_sub hl [0, 1, 3, 4] rfl)
              · have c_9h : ¬ bw < (64 : Int32) := c_9
                obtain ⟨wb, hwb, rwb, hcw⟩ := gr_pos hib c_8; exact absurd (by rw [rwb]; exact nI_lt (b := 64) hwb (by decide)) c_9
  exact loop8 _ 0 ix op0 (Nat.lt_succ_self _) (Nat.zero_le _) (Nat.zero_add _) (ct_dec (fun y hy h => by rw [hr_1.2 y hy, Bool.and_eq_true, decide_eq_true_eq] at h; exact h.1) (by have := hC.2.2.2.1; have := hC.2.1; omega)) (fun _ h => h) _ _ hP hD hS _ (lv_sub hl [0, 1, 2, 3] rfl)
