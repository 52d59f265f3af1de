set_option maxHeartbeats 4000000 in
set_option maxRecDepth 100000 in
theorem c6_removeGate (l : Launch) (D : va_G) (g : hk_G) (ti : Nat) (sz : Nat) (mo : Nat) (ms : Nat) (mr : Nat) (mk : Nat) (mt : Nat) (mv : Nat) (me : Nat) (fs : Nat → Int32) (km : Nat) (ln : Nat) (sp : Nat) (rs : Nat) (ws : Nat) (fk : Nat → Int32) (n : Nat) (N : Nat) (o : Nat) (cd : Nat) (wt : Nat) (ty : Nat → Nat) (pa : Nat → Nat) (pb : Nat → Nat) (vo : Nat → Nat) (nm : Int64) (hC : Cok n N o cd wt) (hM : MR n N o cd wt ty pa pb vo nm fs) (hkm : km ≤ 5) (hg : n < N) (hnO : ∀ k, k < o → ¬ vo k = N - 1) : Met l yX6_removeGate wsX6_removeGate ({ frames := 1, cells := 0, slots := 0, locals := 21 }) (va_Pc [.ref mo] (hk_In D g ti [(mo, .inr (6, [.ref ms, .ref mr, .ref mk, .int (nI km), .ref mt, .int (nI ln), .int (nI sp), .int (nI rs), .int (nI ws), .ref mv, .ref me])), (ms, .inl (g.2.1, 147, .inl fs)), (mk, .inl (g.2.1, 735, .inl fk))] sz)) (va_Qi (S := Nat → Int32) (fun r f' => r = nI (ty (N - 1)) ∧ KP fk fs f' km) (fun u => hk_Out D (va_A [(mo, .inr (6, [.ref ms, .ref mr, .ref mk, .int (nI km), .ref mt, .int (nI ln), .int (nI sp), .int (nI rs), .int (nI ws), .ref mv, .ref me])), (ms, .inl (g.2.1, 147, .inl fs)), (mk, .inl (g.2.1, 735, .inl fk))] sz) (match u with | f' => [(mo, .inr (6, [.ref ms, .ref mr, .ref mk, .int (nI (min (km + 1) 5)), .ref mt, .int (nI ln), .int (nI sp), .int (nI rs), .int (nI ws), .ref mv, .ref me])), (ms, .inl (g.2.1, 147, .inl (upd fs 1 (nI (N - n - 1))))), (mk, .inl (g.2.1, 735, .inl f'))])) (va_A [(mo, .inr (6, [.ref ms, .ref mr, .ref mk, .int (nI km), .ref mt, .int (nI ln), .int (nI sp), .int (nI rs), .int (nI ws), .ref mv, .ref me])), (ms, .inl (g.2.1, 147, .inl fs)), (mk, .inl (g.2.1, 735, .inl fk))] sz)) 0 0 (va_A [(mo, .inr (6, [.ref ms, .ref mr, .ref mk, .int (nI km), .ref mt, .int (nI ln), .int (nI sp), .int (nI rs), .int (nI ws), .ref mv, .ref me])), (ms, .inl (g.2.1, 147, .inl fs)), (mk, .inl (g.2.1, 735, .inl fk))] sz) := by
  refine Met.ofW (cc := cX6_removeGate) (maxL := 2) (ret := (some .int)) (by decide) rfl ?_
  intro p e s m args below meth c s₁ Bd hml hv
  obtain ⟨rfl, hsz, hP, hD0, hE⟩ := hv
  have hx := Bd.exec
  have hb := Bd.bytes
  have hr := Bd.returns
  have hts := atoms_spec (ws := wsX6_removeGate) Bd.pre
  have hown : s.vm.findClass RX6 = some m.cls := findClass_of_methodNamed Bd.named
  have hlocks := Bd.notSynchronized
  have hK := hE.1
  have hi6 : ∀ w ∈ wsX60, w ∈ wsX6_removeGate := fun w h => List.mem_cons_of_mem _ (List.mem_append_right _ h)
  subst hsz
  have hD := hD0.self (sz := s.heap.size)
  generalize hAe : va_A [(mo, .inr (6, [.ref ms, .ref mr, .ref mk, .int (nI km), .ref mt, .int (nI ln), .int (nI sp), .int (nI rs), .int (nI ws), .ref mv, .ref me])), (ms, .inl (g.2.1, 147, .inl fs)), (mk, .inl (g.2.1, 735, .inl fk))] s.heap.size = A at hD hE ⊢
  have hA : ∀ q : Nat, s.heap.size ≤ q → A q := fun q h => by rw [← hAe]; exact Or.inr h
  have hS : va_S A s.heap s.heap [] := va_S.rf
  have hl := lv_entry ([.ref mo]) (n := 2) (Nat.le_of_ble_eq_true rfl)
  rw [lg_entry_eq]
  generalize (lg_sl ([.ref mo]) ++ List.replicate (2 - (lg_sl ([.ref mo])).length) Slot.unset).toArray = ls at hl ⊢
  have hl : lv_has ls 2 [(0, .ref mo)] := hl
  refine lv_aload_n hx hb dX6_removeGate_0 rfl (lv_at hl 0 rfl) ?_
  refine va_get (D := D) (ci := 6) (v := .ref ms) (C := RX6) (T := TX6) (N := 11) hx hb hts hi6 hown hK hP 0 rfl rfl 0 (by decide) (hts (.fieldLink RX6 7 "SelfCheckingCircuitModel" "s" "[I") (by decide +kernel)) (fun _ h9 => h9) rfl dX6_removeGate_1 ?_
  refine lv_iconst (v := 1) hx hb dX6_removeGate_4 (by decide) ?_
  refine va_iald hx hb hK hP 1 1 rfl rfl (by unfold vp_in; decide) dX6_removeGate_5 ?_
  refine hk_ti (fs 1) (congrArg fs (by decide)) ?_
  refine hk_ti (nI (N - n)) (hM.1.2.1) ?_
  refine lv_if_ne (tgt := 12) hx hb dX6_removeGate_6 (by decide) (fun c_1 => ?_) (fun c_1 => ?_)
  · have c_1h : ¬ nI (N - n) = (0 : Int32) := c_1
    refine lv_iconst (v := 0) hx hb dX6_removeGate_12 (by decide) ?_
    refine lv_istore_n (lv' := [(1, .int 0), (0, .ref mo)]) hx hb dX6_removeGate_13 rfl hl (by decide) rfl (fun ls hl => ?_)
    have loop14 : ∀ (fuel : Nat) (k : Nat), (o - k) < fuel → (k ≤ o) → ∀ (H : Heap) (locs : List Loc), va_P D vwCl [(mo, .inr (6, [.ref ms, .ref mr, .ref mk, .int (nI km), .ref mt, .int (nI ln), .int (nI sp), .int (nI rs), .int (nI ws), .ref mv, .ref me])), (ms, .inl (g.2.1, 147, .inl fs)), (mk, .inl (g.2.1, 735, .inl fk))] H → va_D A [(mo, .inr (6, [.ref ms, .ref mr, .ref mk, .int (nI km), .ref mt, .int (nI ln), .int (nI sp), .int (nI rs), .int (nI ws), .ref mv, .ref me])), (ms, .inl (g.2.1, 147, .inl fs)), (mk, .inl (g.2.1, 735, .inl fk))] → va_S A s.heap H locs → ∀ ls : Array Slot, lv_has ls 2 [(1, .int (nI k)), (0, .ref mo)] → W p l e (headSpec wsX6_removeGate ({ frames := 1, cells := 0, slots := 0, locals := 21 })).room s m ([.ref mo] : List Value).toArray below meth c H locs 0 0 (MQ below (va_Qi (S := Nat → Int32) (fun r f' => r = nI (ty (N - 1)) ∧ KP fk fs f' km) (fun u => hk_Out D A (match u with | f' => [(mo, .inr (6, [.ref ms, .ref mr, .ref mk, .int (nI (min (km + 1) 5)), .ref mt, .int (nI ln), .int (nI sp), .int (nI rs), .int (nI ws), .ref mv, .ref me])), (ms, .inl (g.2.1, 147, .inl (upd fs 1 (nI (N - n - 1))))), (mk, .inl (g.2.1, 735, .inl f'))])) A) ([.ref mo] : List Value).toArray s 0 0 A) (F0 m 14 ls []) := by
      intro fuel
      induction fuel with
      | zero => intro k hm; exact absurd hm (Nat.not_lt_zero _)
      | succ fuel ih_14 =>
        intro k hm_14 hk H locs hP hD hS ls hl
        refine lv_iload_n hx hb dX6_removeGate_14 rfl (lv_at hl 0 rfl) ?_
        refine lv_aload_n hx hb dX6_removeGate_15 rfl (lv_at hl 1 rfl) ?_
        refine va_get (D := D) (ci := 6) (v := .ref ms) (C := RX6) (T := TX6) (N := 11) hx hb hts hi6 hown hK hP 0 rfl rfl 0 (by decide) (hts (.fieldLink RX6 7 "SelfCheckingCircuitModel" "s" "[I") (by decide +kernel)) (fun _ h9 => h9) rfl dX6_removeGate_16 ?_
        refine lv_bipush (v := 74) hx hb dX6_removeGate_19 (by decide) ?_
        refine va_iald hx hb hK hP 1 1 rfl rfl (by unfold vp_in; decide) dX6_removeGate_21 ?_
        refine hk_ti (fs 74) (congrArg fs (by decide)) ?_
        refine hk_ti (nI o) (hM.1.2.2.1) ?_
        refine lv_icmp_ge (tgt := 55) hx hb dX6_removeGate_22 (by decide) (fun c_2 => ?_) (fun c_2 => ?_)
        · have c_2h : nI o ≤ nI k := c_2
          refine lv_aload_n hx hb dX6_removeGate_55 rfl (lv_at hl 1 rfl) ?_
          refine hk_cmv (wr := []) (va_runV (As := []) (rest := []) ⟨hx, hb, hml, hown, hts⟩ (c6_keeps l D g ti _ mo ms mr mk mt mv me fs km ln sp rs ws fk hkm) (cwV 0 hts gX6_removeGate_X6_keeps rfl rfl rfl (by decide +kernel) ⟨Nat.le_of_ble_eq_true rfl, Nat.le_of_ble_eq_true rfl⟩) (hk_inV hE hP hD hS hA 6 rfl rfl [0, 1, 2] (by decide) rfl rfl) rfl rfl hl.1 rfl (lv_room (Nat.le_of_ble_eq_true rfl)) dX6_removeGate_56 ⟨Nat.zero_le _, Nat.zero_le _⟩) hP hD hS hA [0, 1, 2] [] rfl rfl (by decide) (by decide) (fun kf H locs hr_4 hP hD hS => ?_)
          try dsimp only at hr_4
          have hP : va_P D vwCl [(mo, .inr (6, [.ref ms, .ref mr, .ref mk, .int (nI (min (km + 1) 5)), .ref mt, .int (nI ln), .int (nI sp), .int (nI rs), .int (nI ws), .ref mv, .ref me])), (ms, .inl (g.2.1, 147, .inl fs)), (mk, .inl (g.2.1, 735, .inl kf))] H := hP
          have hD : va_D A [(mo, .inr (6, [.ref ms, .ref mr, .ref mk, .int (nI (min (km + 1) 5)), .ref mt, .int (nI ln), .int (nI sp), .int (nI rs), .int (nI ws), .ref mv, .ref me])), (ms, .inl (g.2.1, 147, .inl fs)), (mk, .inl (g.2.1, 735, .inl kf))] := hD
          refine lv_aload_n hx hb dX6_removeGate_59 rfl (lv_at hl 1 rfl) ?_
          refine va_get (D := D) (ci := 6) (v := .ref ms) (C := RX6) (T := TX6) (N := 11) hx hb hts hi6 hown hK hP 0 rfl rfl 0 (by decide) (hts (.fieldLink RX6 7 "SelfCheckingCircuitModel" "s" "[I") (by decide +kernel)) (fun _ h9 => h9) rfl dX6_removeGate_60 ?_
          refine lv_iconst (v := 1) hx hb dX6_removeGate_63 (by decide) ?_
          refine lv_dup2_11 hx hb dX6_removeGate_64 rfl rfl ?_
          refine va_iald hx hb hK hP 1 1 rfl rfl (by unfold vp_in; decide) dX6_removeGate_65 ?_
          refine hk_ti (fs 1) (congrArg fs (by decide)) ?_
          refine hk_ti (nI (N - n)) (hM.1.2.1) ?_
          refine lv_iconst (v := 1) hx hb dX6_removeGate_66 (by decide) ?_
          refine lv_isub hx hb dX6_removeGate_67 ?_
          refine hk_ti (nI (N - n - 1)) (pk_sub (by omega : 1 ≤ N - n)) ?_
          refine va_iast hx hb hK hP hD hS 1 1 rfl rfl (by unfold vp_in; decide) dX6_removeGate_68 (fun H locs hP hD hS => ?_)
          rw [show (1 : Int32).toNatClampNeg = 1 from by decide] at hP hD
          have hP : va_P D vwCl [(mo, .inr (6, [.ref ms, .ref mr, .ref mk, .int (nI (min (km + 1) 5)), .ref mt, .int (nI ln), .int (nI sp), .int (nI rs), .int (nI ws), .ref mv, .ref me])), (ms, .inl (g.2.1, 147, .inl (upd fs 1 (nI (N - n - 1))))), (mk, .inl (g.2.1, 735, .inl kf))] H := hP
          have hD : va_D A [(mo, .inr (6, [.ref ms, .ref mr, .ref mk, .int (nI (min (km + 1) 5)), .ref mt, .int (nI ln), .int (nI sp), .int (nI rs), .int (nI ws), .ref mv, .ref me])), (ms, .inl (g.2.1, 147, .inl (upd fs 1 (nI (N - n - 1))))), (mk, .inl (g.2.1, 735, .inl kf))] := hD
          refine lv_aload_n hx hb dX6_removeGate_69 rfl (lv_at hl 1 rfl) ?_
          refine va_get (D := D) (ci := 6) (v := .ref ms) (C := RX6) (T := TX6) (N := 11) hx hb hts hi6 hown hK hP 0 rfl rfl 0 (by decide) (hts (.fieldLink RX6 7 "SelfCheckingCircuitModel" "s" "[I") (by decide +kernel)) (fun _ h9 => h9) rfl dX6_removeGate_70 ?_
          refine lv_iconst (v := 2) hx hb dX6_removeGate_73 (by decide) ?_
          refine lv_iconst (v := 3) hx hb dX6_removeGate_74 (by decide) ?_
          refine lv_aload_n hx hb dX6_removeGate_75 rfl (lv_at hl 1 rfl) ?_
          refine va_get (D := D) (ci := 6) (v := .ref ms) (C := RX6) (T := TX6) (N := 11) hx hb hts hi6 hown hK hP 0 rfl rfl 0 (by decide) (hts (.fieldLink RX6 7 "SelfCheckingCircuitModel" "s" "[I") (by decide +kernel)) (fun _ h9 => h9) rfl dX6_removeGate_76 ?_
          refine lv_iconst (v := 1) hx hb dX6_removeGate_79 (by decide) ?_
          refine va_iald hx hb hK hP 1 1 rfl rfl (by unfold vp_in; decide) dX6_removeGate_80 ?_
          refine hk_ti ((upd fs 1 (nI (N - n - 1))) 1) (congrArg (upd fs 1 (nI (N - n - 1))) (by decide)) ?_
          refine hk_ti (nI (N - n - 1)) (pk_us) ?_
          refine lv_imul hx hb dX6_removeGate_81 ?_
          refine lv_iadd hx hb dX6_removeGate_82 ?_
          refine hk_ti (nI (2 + 3 * (N - n - 1))) (mix (a := 0) rfl) ?_
          refine va_iald hx hb hK hP 1 1 rfl rfl (vp_in_nI (N := 147) (by have := hC.2.2.2.1; have := hC.2.1; omega) (by decide)) dX6_removeGate_83 ?_
          refine hk_ti ((upd fs 1 (nI (N - n - 1))) (2 + 3 * (N - n - 1))) (congrArg (upd fs 1 (nI (N - n - 1))) (nI_clamp (by have := hC.2.2.2.1; have := hC.2.1; omega))) ?_
          refine hk_ti (nI (ty (N - 1))) (by rw [pk_un (by omega), show N - n - 1 = N - 1 - n by omega]; exact (hM.2.1 (N - 1) (by omega) (by omega)).1) ?_
          have hP9 := hP.sub (ws' := [(mo, .inr (6, [.ref ms, .ref mr, .ref mk, .int (nI (min (km + 1) 5)), .ref mt, .int (nI ln), .int (nI sp), .int (nI rs), .int (nI ws), .ref mv, .ref me])), (ms, .inl (g.2.1, 147, .inl (upd fs 1 (nI (N - n - 1))))), (mk, .inl (g.2.1, 735, .inl kf))]) [0, 1, 2] rfl
          have hD9 := hD.sub (ws' := [(mo, .inr (6, [.ref ms, .ref mr, .ref mk, .int (nI (min (km + 1) 5)), .ref mt, .int (nI ln), .int (nI sp), .int (nI rs), .int (nI ws), .ref mv, .ref me])), (ms, .inl (g.2.1, 147, .inl (upd fs 1 (nI (N - n - 1))))), (mk, .inl (g.2.1, 735, .inl kf))]) [0, 1, 2] (by decide) rfl
          exact W.iret (v := nI (ty (N - 1))) hx hb hr (fun tt ht hW => ⟨⟨_, kf, rfl, ⟨rfl, hr_4⟩, by rw [ht]; exact hP9, hD9⟩, hS.F ht⟩) hS.2.2 dX6_removeGate_84
        · have c_2h : ¬ nI o ≤ nI k := c_2
          refine lv_aload_n hx hb dX6_removeGate_25 rfl (lv_at hl 1 rfl) ?_
          refine va_get (D := D) (ci := 6) (v := .ref ms) (C := RX6) (T := TX6) (N := 11) hx hb hts hi6 hown hK hP 0 rfl rfl 0 (by decide) (hts (.fieldLink RX6 7 "SelfCheckingCircuitModel" "s" "[I") (by decide +kernel)) (fun _ h9 => h9) rfl dX6_removeGate_26 ?_
          refine lv_bipush (v := 75) hx hb dX6_removeGate_29 (by decide) ?_
          refine lv_iload_n hx hb dX6_removeGate_31 rfl (lv_at hl 0 rfl) ?_
          refine lv_iadd hx hb dX6_removeGate_32 ?_
          refine hk_ti (nI (75 + k)) (nI_add 75 k) ?_
          refine va_iald hx hb hK hP 1 1 rfl rfl (vp_in_nI (N := 147) (by have := (hk_nge o c_2 (hi := by have := hC.2.2.2.2.1; omega) (hn := by have := hC.2.2.2.2.1; omega)); have := hC.2.2.2.2.1; omega) (by decide)) dX6_removeGate_33 ?_
          refine hk_ti (fs (75 + k)) (congrArg fs (nI_clamp (by have := hC.2.2.2.2.1; omega))) ?_
          refine hk_ti (nI (vo k)) ((hM.2.2.1 k (hk_nge o c_2 (hi := by have := hC.2.2.2.2.1; omega) (hn := by have := hC.2.2.2.2.1; omega))).1) ?_
          refine lv_aload_n hx hb dX6_removeGate_34 rfl (lv_at hl 1 rfl) ?_
          refine va_get (D := D) (ci := 6) (v := .ref ms) (C := RX6) (T := TX6) (N := 11) hx hb hts hi6 hown hK hP 0 rfl rfl 0 (by decide) (hts (.fieldLink RX6 7 "SelfCheckingCircuitModel" "s" "[I") (by decide +kernel)) (fun _ h9 => h9) rfl dX6_removeGate_35 ?_
          refine hk_csi (va_runS (As := [.ref ms]) (rest := [.int (nI (vo k))]) ⟨hx, hb, hml, hown, hts⟩ (c6_nodesOf l D g ti ms fs ) (va_cwS 1 hts gX6_removeGate_X6_nodesOf rfl rfl rfl (by decide +kernel) ⟨Nat.le_of_ble_eq_true rfl, Nat.le_of_ble_eq_true rfl⟩) (hk_roS hE hP hS [1] rfl) rfl rfl hl.1 rfl (lv_room (Nat.le_of_ble_eq_true rfl)) dX6_removeGate_38 ⟨Nat.zero_le _, Nat.zero_le _⟩) (fun r_5 hr_6 => ?_)
          subst hr_6
          refine hk_ti (nI N) (by rw [hM.1.1, hM.1.2.1, nI_add, Nat.add_sub_cancel' hC.2.2.1]) ?_
          refine lv_iconst (v := 1) hx hb dX6_removeGate_41 (by decide) ?_
          refine lv_isub hx hb dX6_removeGate_42 ?_
          refine hk_ti (nI (N - 1)) (pk_sub (by have := hC.1; omega : 1 ≤ N)) ?_
          refine lv_icmp_ne (tgt := 49) hx hb dX6_removeGate_43 (by decide) (fun c_7 => ?_) (fun c_7 => ?_)
          · have c_7h : ¬ nI (vo k) = nI (N - 1) := c_7
            refine lv_iinc (v := (nI (k + 1))) (lv' := [(1, .int (nI (k + 1))), (0, .ref mo)]) hx hb dX6_removeGate_49 hl (k := 0) rfl (nI_1 k) (by decide) rfl (fun ls hl => ?_)
            refine lv_goto (tgt := 14) hx hb dX6_removeGate_52 (by decide) ?_
            have hlt : k < o := (hk_nge o c_2 (hi := by have := hC.2.2.2.2.1; omega) (hn := by have := hC.2.2.2.2.1; omega))
            exact ih_14 (k + 1) (by omega) (by omega) _ _ hP hD hS _ (lv_sub hl [0, 1] rfl)
          · have c_7h : nI (vo k) = nI (N - 1) := c_7
            exact absurd (nI_inj c_7 (by have := (hM.2.2.1 k (hk_nge o c_2 (hi := by have := hC.2.2.2.2.1; omega) (hn := by have := hC.2.2.2.2.1; omega))).2; have := hC.2.2.2.1; have := hC.2.1; omega) (by have := hC.2.2.2.1; have := hC.2.1; omega)) (hnO k (hk_nge o c_2 (hi := by have := hC.2.2.2.2.1; omega) (hn := by have := hC.2.2.2.2.1; omega)))
    exact loop14 _ 0 (Nat.lt_succ_self _) (Nat.zero_le _) _ _ hP hD hS _ (lv_sub hl [0, 1] rfl)
  · have c_1h : nI (N - n) = (0 : Int32) := c_1
    exact absurd c_1 (nI_ne0 (by omega) (by have := hC.2.2.2.1; have := hC.2.1; omega))
set_option maxHeartbeats 4000000 in
set_option maxRecDepth 100000 in
theorem c6_removeGate_no1 (l : Launch) (D : va_G) (g : hk_G) (ti : Nat) (mo : Nat) (ms : Nat) (mr : Nat) (mk : Nat) (mt : Nat) (mv : Nat) (me : Nat) (fs : Nat → Int32) (km : Nat) (ln : Nat) (sp : Nat) (rs : Nat) (ws : Nat) (n : Nat) (N : Nat) (o : Nat) (cd : Nat) (wt : Nat) (ty : Nat → Nat) (pa : Nat → Nat) (pb : Nat → Nat) (vo : Nat → Nat) (nm : Int64) (hC : Cok n N o cd wt) (hM : MR n N o cd wt ty pa pb vo nm fs) (hg : N = n) : Met l yX6_removeGate wsX6_removeGate ({ frames := 0, cells := 0, slots := 0, locals := 0 }) (va_Pc [.ref mo] (hk_Ro D g ti [(mo, .inr (6, [.ref ms, .ref mr, .ref mk, .int (nI km), .ref mt, .int (nI ln), .int (nI sp), .int (nI rs), .int (nI ws), .ref mv, .ref me])), (ms, .inl (g.2.1, 147, .inl fs))])) (vp_Si (fun r => r = -104)) 0 0 (fun _ => False) := by
  refine Met.ofW (cc := cX6_removeGate) (maxL := 2) (ret := (some .int)) (by decide) rfl ?_
  intro p e s m args below meth c s₁ Bd hml hv
  obtain ⟨rfl, hP, hE⟩ := hv
  have hx := Bd.exec
  have hb := Bd.bytes
  have hr := Bd.returns
  have hts := atoms_spec (ws := wsX6_removeGate) Bd.pre
  have hown : s.vm.findClass RX6 = some m.cls := findClass_of_methodNamed Bd.named
  have hlocks := Bd.notSynchronized
  have hK := hE.1
  have hi6 : ∀ w ∈ wsX60, w ∈ wsX6_removeGate := fun w h => List.mem_cons_of_mem _ (List.mem_append_right _ h)
  have hS : va_S (fun _ => False) s.heap s.heap [] := va_S.rf
  have hl := lv_entry ([.ref mo]) (n := 2) (Nat.le_of_ble_eq_true rfl)
  rw [lg_entry_eq]
  generalize (lg_sl ([.ref mo]) ++ List.replicate (2 - (lg_sl ([.ref mo])).length) Slot.unset).toArray = ls at hl ⊢
  have hl : lv_has ls 2 [(0, .ref mo)] := hl
  refine lv_aload_n hx hb dX6_removeGate_0 rfl (lv_at hl 0 rfl) ?_
  refine va_get (D := D) (ci := 6) (v := .ref ms) (C := RX6) (T := TX6) (N := 11) hx hb hts hi6 hown hK hP 0 rfl rfl 0 (by decide) (hts (.fieldLink RX6 7 "SelfCheckingCircuitModel" "s" "[I") (by decide +kernel)) (fun _ h9 => h9) rfl dX6_removeGate_1 ?_
  refine lv_iconst (v := 1) hx hb dX6_removeGate_4 (by decide) ?_
  refine va_iald hx hb hK hP 1 1 rfl rfl (by unfold vp_in; decide) dX6_removeGate_5 ?_
  refine hk_ti (fs 1) (congrArg fs (by decide)) ?_
  refine hk_ti (nI (N - n)) (hM.1.2.1) ?_
  refine lv_if_ne (tgt := 12) hx hb dX6_removeGate_6 (by decide) (fun c_1 => ?_) (fun c_1 => ?_)
  · have c_1h : ¬ nI (N - n) = (0 : Int32) := c_1
    exact absurd (by rw [hg, Nat.sub_self]; rfl) c_1
  · have c_1h : nI (N - n) = (0 : Int32) := c_1
    refine lv_bipush (v := (-104)) hx hb dX6_removeGate_9 (by decide) ?_
    exact W.iret (v := (-104)) hx hb hr (fun tt ht hW => ⟨_, rfl, rfl, ht⟩) (fun _ h => by cases h) dX6_removeGate_11
set_option maxHeartbeats 4000000 in
set_option maxRecDepth 100000 in
theorem c6_removeGate_no2 (l : Launch) (D : va_G) (g : hk_G) (ti : Nat) (mo : Nat) (ms : Nat) (mr : Nat) (mk : Nat) (mt : Nat) (mv : Nat) (me : Nat) (fs : Nat → Int32) (km : Nat) (ln : Nat) (sp : Nat) (rs : Nat) (ws : Nat) (n : Nat) (N : Nat) (o : Nat) (cd : Nat) (wt : Nat) (ty : Nat → Nat) (pa : Nat → Nat) (pb : Nat → Nat) (vo : Nat → Nat) (nm : Int64) (hC : Cok n N o cd wt) (hM : MR n N o cd wt ty pa pb vo nm fs) (hg : n < N) (hO2 : ∃ k, k < o ∧ vo k = N - 1) : Met l yX6_removeGate wsX6_removeGate ({ frames := 1, cells := 0, slots := 0, locals := 20 }) (va_Pc [.ref mo] (hk_Ro D g ti [(mo, .inr (6, [.ref ms, .ref mr, .ref mk, .int (nI km), .ref mt, .int (nI ln), .int (nI sp), .int (nI rs), .int (nI ws), .ref mv, .ref me])), (ms, .inl (g.2.1, 147, .inl fs))])) (vp_Si (fun r => r = -102)) 0 0 (fun _ => False) := by
  refine Met.ofW (cc := cX6_removeGate) (maxL := 2) (ret := (some .int)) (by decide) rfl ?_
  intro p e s m args below meth c s₁ Bd hml hv
  obtain ⟨rfl, hP, hE⟩ := hv
  have hx := Bd.exec
  have hb := Bd.bytes
  have hr := Bd.returns
  have hts := atoms_spec (ws := wsX6_removeGate) Bd.pre
  have hown : s.vm.findClass RX6 = some m.cls := findClass_of_methodNamed Bd.named
  have hlocks := Bd.notSynchronized
  have hK := hE.1
  have hi6 : ∀ w ∈ wsX60, w ∈ wsX6_removeGate := fun w h => List.mem_cons_of_mem _ (List.mem_append_right _ h)
  have hS : va_S (fun _ => False) s.heap s.heap [] := va_S.rf
  have hl := lv_entry ([.ref mo]) (n := 2) (Nat.le_of_ble_eq_true rfl)
  rw [lg_entry_eq]
  generalize (lg_sl ([.ref mo]) ++ List.replicate (2 - (lg_sl ([.ref mo])).length) Slot.unset).toArray = ls at hl ⊢
  have hl : lv_has ls 2 [(0, .ref mo)] := hl
  refine lv_aload_n hx hb dX6_removeGate_0 rfl (lv_at hl 0 rfl) ?_
  refine va_get (D := D) (ci := 6) (v := .ref ms) (C := RX6) (T := TX6) (N := 11) hx hb hts hi6 hown hK hP 0 rfl rfl 0 (by decide) (hts (.fieldLink RX6 7 "SelfCheckingCircuitModel" "s" "[I") (by decide +kernel)) (fun _ h9 => h9) rfl dX6_removeGate_1 ?_
  refine lv_iconst (v := 1) hx hb dX6_removeGate_4 (by decide) ?_
  refine va_iald hx hb hK hP 1 1 rfl rfl (by unfold vp_in; decide) dX6_removeGate_5 ?_
  refine hk_ti (fs 1) (congrArg fs (by decide)) ?_
  refine hk_ti (nI (N - n)) (hM.1.2.1) ?_
  refine lv_if_ne (tgt := 12) hx hb dX6_removeGate_6 (by decide) (fun c_1 => ?_) (fun c_1 => ?_)
  · have c_1h : ¬ nI (N - n) = (0 : Int32) := c_1
    refine lv_iconst (v := 0) hx hb dX6_removeGate_12 (by decide) ?_
    refine lv_istore_n (lv' := [(1, .int 0), (0, .ref mo)]) hx hb dX6_removeGate_13 rfl hl (by decide) rfl (fun ls hl => ?_)
    have loop14 : ∀ (fuel : Nat) (k : Nat), (o - k) < fuel → (k ≤ o) → (∀ j, j < k → ¬ vo j = N - 1) → ∀ ls : Array Slot, lv_has ls 2 [(1, .int (nI k)), (0, .ref mo)] → W p l e (headSpec wsX6_removeGate ({ frames := 1, cells := 0, slots := 0, locals := 20 })).room s m ([.ref mo] : List Value).toArray below meth c s.heap [] 0 0 (MQ below (vp_Si (fun r => r = -102)) ([.ref mo] : List Value).toArray s 0 0 (fun _ => False)) (F0 m 14 ls []) := by
      intro fuel
      induction fuel with
      | zero => intro k hm; exact absurd hm (Nat.not_lt_zero _)
      | succ fuel ih_14 =>
        intro k hm_14 hk hnk ls hl
        refine lv_iload_n hx hb dX6_removeGate_14 rfl (lv_at hl 0 rfl) ?_
        refine lv_aload_n hx hb dX6_removeGate_15 rfl (lv_at hl 1 rfl) ?_
        refine va_get (D := D) (ci := 6) (v := .ref ms) (C := RX6) (T := TX6) (N := 11) hx hb hts hi6 hown hK hP 0 rfl rfl 0 (by decide) (hts (.fieldLink RX6 7 "SelfCheckingCircuitModel" "s" "[I") (by decide +kernel)) (fun _ h9 => h9) rfl dX6_removeGate_16 ?_
        refine lv_bipush (v := 74) hx hb dX6_removeGate_19 (by decide) ?_
        refine va_iald hx hb hK hP 1 1 rfl rfl (by unfold vp_in; decide) dX6_removeGate_21 ?_
        refine hk_ti (fs 74) (congrArg fs (by decide)) ?_
        refine hk_ti (nI o) (hM.1.2.2.1) ?_
        refine lv_icmp_ge (tgt := 55) hx hb dX6_removeGate_22 (by decide) (fun c_2 => ?_) (fun c_2 => ?_)
        · have c_2h : nI o ≤ nI k := c_2
          obtain ⟨k9, h9, h8⟩ := hO2; exact absurd h8 (hnk k9 (by have := hk_ge o c_2 (hi := by have := hC.2.2.2.2.1; omega) (hn := by have := hC.2.2.2.2.1; omega); omega))
        · have c_2h : ¬ nI o ≤ nI k := c_2
          refine lv_aload_n hx hb dX6_removeGate_25 rfl (lv_at hl 1 rfl) ?_
          refine va_get (D := D) (ci := 6) (v := .ref ms) (C := RX6) (T := TX6) (N := 11) hx hb hts hi6 hown hK hP 0 rfl rfl 0 (by decide) (hts (.fieldLink RX6 7 "SelfCheckingCircuitModel" "s" "[I") (by decide +kernel)) (fun _ h9 => h9) rfl dX6_removeGate_26 ?_
          refine lv_bipush (v := 75) hx hb dX6_removeGate_29 (by decide) ?_
          refine lv_iload_n hx hb dX6_removeGate_31 rfl (lv_at hl 0 rfl) ?_
          refine lv_iadd hx hb dX6_removeGate_32 ?_
          refine hk_ti (nI (75 + k)) (nI_add 75 k) ?_
          refine va_iald hx hb hK hP 1 1 rfl rfl (vp_in_nI (N := 147) (by have := (hk_nge o c_2 (hi := by have := hC.2.2.2.2.1; omega) (hn := by have := hC.2.2.2.2.1; omega)); have := hC.2.2.2.2.1; omega) (by decide)) dX6_removeGate_33 ?_
          refine hk_ti (fs (75 + k)) (congrArg fs (nI_clamp (by have := hC.2.2.2.2.1; omega))) ?_
          refine hk_ti (nI (vo k)) ((hM.2.2.1 k (hk_nge o c_2 (hi := by have := hC.2.2.2.2.1; omega) (hn := by have := hC.2.2.2.2.1; omega))).1) ?_
          refine lv_aload_n hx hb dX6_removeGate_34 rfl (lv_at hl 1 rfl) ?_
          refine va_get (D := D) (ci := 6) (v := .ref ms) (C := RX6) (T := TX6) (N := 11) hx hb hts hi6 hown hK hP 0 rfl rfl 0 (by decide) (hts (.fieldLink RX6 7 "SelfCheckingCircuitModel" "s" "[I") (by decide +kernel)) (fun _ h9 => h9) rfl dX6_removeGate_35 ?_
          refine hk_csi (va_runS (As := [.ref ms]) (rest := [.int (nI (vo k))]) ⟨hx, hb, hml, hown, hts⟩ (c6_nodesOf l D g ti ms fs ) (va_cwS 1 hts gX6_removeGate_X6_nodesOf rfl rfl rfl (by decide +kernel) ⟨Nat.le_of_ble_eq_true rfl, Nat.le_of_ble_eq_true rfl⟩) (hk_roS hE hP hS [1] rfl) rfl rfl hl.1 rfl (lv_room (Nat.le_of_ble_eq_true rfl)) dX6_removeGate_38 ⟨Nat.zero_le _, Nat.zero_le _⟩) (fun r_3 hr_4 => ?_)
          subst hr_4
          refine hk_ti (nI N) (by rw [hM.1.1, hM.1.2.1, nI_add, Nat.add_sub_cancel' hC.2.2.1]) ?_
          refine lv_iconst (v := 1) hx hb dX6_removeGate_41 (by decide) ?_
          refine lv_isub hx hb dX6_removeGate_42 ?_
          refine hk_ti (nI (N - 1)) (pk_sub (by have := hC.1; omega : 1 ≤ N)) ?_
          refine lv_icmp_ne (tgt := 49) hx hb dX6_removeGate_43 (by decide) (fun c_5 => ?_) (fun c_5 => ?_)
          · have c_5h : ¬ nI (vo k) = nI (N - 1) := c_5
            refine lv_iinc (v := (nI (k + 1))) (lv' := [(1, .int (nI (k + 1))), (0, .ref mo)]) hx hb dX6_removeGate_49 hl (k := 0) rfl (nI_1 k) (by decide) rfl (fun ls hl => ?_)
            refine lv_goto (tgt := 14) hx hb dX6_removeGate_52 (by decide) ?_
            have hlt : k < o := (hk_nge o c_2 (hi := by have := hC.2.2.2.2.1; omega) (hn := by have := hC.2.2.2.2.1; omega))
            exact ih_14 (k + 1) (by omega) (by omega) (fun j hj => (Nat.lt_succ_iff_lt_or_eq.mp hj).elim (hnk j) (fun q z => c_5 (by rw [← z, q]))) _ (lv_sub hl [0, 1] rfl)
          · have c_5h : nI (vo k) = nI (N - 1) := c_5
            refine lv_bipush (v := (-102)) hx hb dX6_removeGate_46 (by decide) ?_
            exact W.iret (v := (-102)) hx hb hr (fun tt ht hW => ⟨_, rfl, rfl, ht⟩) (fun _ h => by cases h) dX6_removeGate_48
    exact loop14 _ 0 (Nat.lt_succ_self _) (Nat.zero_le _) (fun _ h => absurd h (Nat.not_lt_zero _)) _ (lv_sub hl [0, 1] rfl)
  · have c_1h : nI (N - n) = (0 : Int32) := c_1
    exact absurd c_1 (nI_ne0 (by omega) (by have := hC.2.2.2.1; have := hC.2.1; omega))
set_option maxHeartbeats 4000000 in
set_option maxRecDepth 100000 in
theorem c6_clearText (l : Launch) (D : va_G) (g : hk_G) (ti : Nat) (sz : Nat) (mo : Nat) (ms : Nat) (mr : Nat) (mk : Nat) (mt : Nat) (mv : Nat) (me : Nat) (km : Nat) (ln : Nat) (sp : Nat) (rs : Nat) (ws : Nat) (fx : Nat → Int32)  : Met l yX6_clearText wsX6_clearText ({ frames := 0, cells := 0, slots := 0, locals := 0 }) (va_Pc [.ref mo] (hk_In D g ti [(mo, .inr (6, [.ref ms, .ref mr, .ref mk, .int (nI km), .ref mt, .int (nI ln), .int (nI sp), .int (nI rs), .int (nI ws), .ref mv, .ref me])), (mt, .inl (g.2.1, 200, .inl fx))] sz)) (va_Qi (S := Unit) (fun r _ => r = nI ln) (fun u => hk_Out D (va_A [(mo, .inr (6, [.ref ms, .ref mr, .ref mk, .int (nI km), .ref mt, .int (nI ln), .int (nI sp), .int (nI rs), .int (nI ws), .ref mv, .ref me])), (mt, .inl (g.2.1, 200, .inl fx))] sz) (match u with | _ => [(mo, .inr (6, [.ref ms, .ref mr, .ref mk, .int (nI km), .ref mt, .int (nI 0), .int (nI sp), .int (nI rs), .int (nI ws), .ref mv, .ref me])), (mt, .inl (g.2.1, 200, .inl fx))])) (va_A [(mo, .inr (6, [.ref ms, .ref mr, .ref mk, .int (nI km), .ref mt, .int (nI ln), .int (nI sp), .int (nI rs), .int (nI ws), .ref mv, .ref me])), (mt, .inl (g.2.1, 200, .inl fx))] sz)) 0 0 (va_A [(mo, .inr (6, [.ref ms, .ref mr, .ref mk, .int (nI km), .ref mt, .int (nI ln), .int (nI sp), .int (nI rs), .int (nI ws), .ref mv, .ref me])), (mt, .inl (g.2.1, 200, .inl fx))] sz) := by
  refine Met.ofW (cc := cX6_clearText) (maxL := 2) (ret := (some .int)) (by decide) rfl ?_
  intro p e s m args below meth c s₁ Bd hml hv
  obtain ⟨rfl, hsz, hP, hD0, hE⟩ := hv
  have hx := Bd.exec
  have hb := Bd.bytes
  have hr := Bd.returns
  have hts := atoms_spec (ws := wsX6_clearText) Bd.pre
  have hown : s.vm.findClass RX6 = some m.cls := findClass_of_methodNamed Bd.named
  have hlocks := Bd.notSynchronized
  have hK := hE.1
  have hi6 : ∀ w ∈ wsX60, w ∈ wsX6_clearText := fun w h => List.mem_cons_of_mem _ (List.mem_append_right _ h)
  subst hsz
  have hD := hD0.self (sz := s.heap.size)
  generalize hAe : va_A [(mo, .inr (6, [.ref ms, .ref mr, .ref mk, .int (nI km), .ref mt, .int (nI ln), .int (nI sp), .int (nI rs), .int (nI ws), .ref mv, .ref me])), (mt, .inl (g.2.1, 200, .inl fx))] s.heap.size = A at hD hE ⊢
  have hA : ∀ q : Nat, s.heap.size ≤ q → A q := fun q h => by rw [← hAe]; exact Or.inr h
  have hS : va_S A s.heap s.heap [] := va_S.rf
  have hl := lv_entry ([.ref mo]) (n := 2) (Nat.le_of_ble_eq_true rfl)
  rw [lg_entry_eq]
  generalize (lg_sl ([.ref mo]) ++ List.replicate (2 - (lg_sl ([.ref mo])).length) Slot.unset).toArray = ls at hl ⊢
  have hl : lv_has ls 2 [(0, .ref mo)] := hl
  refine lv_aload_n hx hb dX6_clearText_0 rfl (lv_at hl 0 rfl) ?_
  refine va_get (D := D) (ci := 6) (v := .int (nI ln)) (C := RX6) (T := TX6) (N := 11) hx hb hts hi6 hown hK hP 0 rfl rfl 5 (by decide) (hts (.fieldLink RX6 41 "SelfCheckingCircuitModel" "length" "I") (by decide +kernel)) (fun _ h9 => h9) rfl dX6_clearText_1 ?_
  refine lv_istore_n (lv' := [(1, .int (nI ln)), (0, .ref mo)]) hx hb dX6_clearText_4 rfl hl (by decide) rfl (fun ls hl => ?_)
  refine lv_aload_n hx hb dX6_clearText_5 rfl (lv_at hl 1 rfl) ?_
  refine lv_iconst (v := 0) hx hb dX6_clearText_6 (by decide) ?_
  refine va_put (D := D) (ci := 6) (v := .int 0) (ty := .int) (C := RX6) (T := TX6) (N := 11) hx hb hts hi6 tyX6 tyX6_ok nmX6 hown hK hP hD hS 0 rfl rfl 5 (by decide) (hts (.fieldLink RX6 41 "SelfCheckingCircuitModel" "length" "I") (by decide +kernel)) (fun _ h9 => h9) rfl (by decide +kernel) rfl rfl (Nat.le_of_ble_eq_true rfl) dX6_clearText_7 (fun H locs hP hD hS => ?_)
  have hP : va_P D vwCl [(mo, .inr (6, [.ref ms, .ref mr, .ref mk, .int (nI km), .ref mt, .int 0, .int (nI sp), .int (nI rs), .int (nI ws), .ref mv, .ref me])), (mt, .inl (g.2.1, 200, .inl fx))] H := hP
  have hD : va_D A [(mo, .inr (6, [.ref ms, .ref mr, .ref mk, .int (nI km), .ref mt, .int 0, .int (nI sp), .int (nI rs), .int (nI ws), .ref mv, .ref me])), (mt, .inl (g.2.1, 200, .inl fx))] := hD
  refine lv_iload_n hx hb dX6_clearText_10 rfl (lv_at hl 0 rfl) ?_
  have hP9 := hP.sub (ws' := [(mo, .inr (6, [.ref ms, .ref mr, .ref mk, .int (nI km), .ref mt, .int (nI 0), .int (nI sp), .int (nI rs), .int (nI ws), .ref mv, .ref me])), (mt, .inl (g.2.1, 200, .inl fx))]) [0, 1] rfl
  have hD9 := hD.sub (ws' := [(mo, .inr (6, [.ref ms, .ref mr, .ref mk, .int (nI km), .ref mt, .int (nI 0), .int (nI sp), .int (nI rs), .int (nI ws), .ref mv, .ref me])), (mt, .inl (g.2.1, 200, .inl fx))]) [0, 1] (by decide) rfl
  exact W.iret (v := nI ln) hx hb hr (fun tt ht hW => ⟨⟨_, (), rfl, rfl, by rw [ht]; exact hP9, hD9⟩, hS.F ht⟩) hS.2.2 dX6_clearText_11
theorem in_ap {v : Int32} : inL v.toInt64 32 126 = (decide (¬ v < 32) && decide (v ≤ 126)) := by
  unfold inL
  have e : v.toInt64.toInt = v.toInt := Int32.toInt_toInt64 v
  have z1 : (32 : Int64).toInt = 32 := by decide
  have z2 : (32 : Int32).toInt = 32 := by decide
  have z3 : (126 : Int64).toInt = 126 := by decide
  have z4 : (126 : Int32).toInt = 126 := by decide
  congr 1
  · apply decide_eq_decide.mpr
    rw [Int64.le_iff_toInt_le, Int32.lt_iff_toInt_lt, e, z1, z2]; omega
  · apply decide_eq_decide.mpr
    rw [Int64.le_iff_toInt_le, Int32.le_iff_toInt_le, e, z3, z4]
set_option maxHeartbeats 4000000 in
set_option maxRecDepth 100000 in
theorem c6_append (l : Launch) (D : va_G) (g : hk_G) (ti : Nat) (sz : Nat) (mo : Nat) (ms : Nat) (mr : Nat) (mk : Nat) (mt : Nat) (mv : Nat) (me : Nat) (km : Nat) (ln : Nat) (sp : Nat) (rs : Nat) (ws : Nat) (fx : Nat → Int32) (v : Int32) (hL : ln < 200) (h32 : ¬ v < 32) (h126 : v ≤ 126) : Met l yX6_append wsX6_append ({ frames := 1, cells := 0, slots := 0, locals := 25 }) (va_Pc [.ref mo, .int v] (hk_In D g ti [(mo, .inr (6, [.ref ms, .ref mr, .ref mk, .int (nI km), .ref mt, .int (nI ln), .int (nI sp), .int (nI rs), .int (nI ws), .ref mv, .ref me])), (mt, .inl (g.2.1, 200, .inl fx))] sz)) (va_Qi (S := Unit) (fun r _ => r = nI (ln + 1)) (fun u => hk_Out D (va_A [(mo, .inr (6, [.ref ms, .ref mr, .ref mk, .int (nI km), .ref mt, .int (nI ln), .int (nI sp), .int (nI rs), .int (nI ws), .ref mv, .ref me])), (mt, .inl (g.2.1, 200, .inl fx))] sz) (match u with | _ => [(mo, .inr (6, [.ref ms, .ref mr, .ref mk, .int (nI km), .ref mt, .int (nI (ln + 1)), .int (nI sp), .int (nI rs), .int (nI ws), .ref mv, .ref me])), (mt, .inl (g.2.1, 200, .inl (upd fx ln v)))])) (va_A [(mo, .inr (6, [.ref ms, .ref mr, .ref mk, .int (nI km), .ref mt, .int (nI ln), .int (nI sp), .int (nI rs), .int (nI ws), .ref mv, .ref me])), (mt, .inl (g.2.1, 200, .inl fx))] sz)) 0 0 (va_A [(mo, .inr (6, [.ref ms, .ref mr, .ref mk, .int (nI km), .ref mt, .int (nI ln), .int (nI sp), .int (nI rs), .int (nI ws), .ref mv, .ref me])), (mt, .inl (g.2.1, 200, .inl fx))] sz) := by
  refine Met.ofW (cc := cX6_append) (maxL := 2) (ret := (some .int)) (by decide) rfl ?_
  intro p e s m args below meth c s₁ Bd hml hv
  obtain ⟨rfl, hsz, hP, hD0, hE⟩ := hv
  have hx := Bd.exec
  have hb := Bd.bytes
  have hr := Bd.returns
  have hts := atoms_spec (ws := wsX6_append) Bd.pre
  have hown : s.vm.findClass RX6 = some m.cls := findClass_of_methodNamed Bd.named
  have hlocks := Bd.notSynchronized
  have hK := hE.1
  have hi6 : ∀ w ∈ wsX60, w ∈ wsX6_append := fun w h => List.mem_cons_of_mem _ (List.mem_append_right _ h)
  subst hsz
  have hD := hD0.self (sz := s.heap.size)
  generalize hAe : va_A [(mo, .inr (6, [.ref ms, .ref mr, .ref mk, .int (nI km), .ref mt, .int (nI ln), .int (nI sp), .int (nI rs), .int (nI ws), .ref mv, .ref me])), (mt, .inl (g.2.1, 200, .inl fx))] s.heap.size = A at hD hE ⊢
  have hA : ∀ q : Nat, s.heap.size ≤ q → A q := fun q h => by rw [← hAe]; exact Or.inr h
  have hS : va_S A s.heap s.heap [] := va_S.rf
  have hl := lv_entry ([.ref mo, .int v]) (n := 2) (Nat.le_of_ble_eq_true rfl)
  rw [lg_entry_eq]
  generalize (lg_sl ([.ref mo, .int v]) ++ List.replicate (2 - (lg_sl ([.ref mo, .int v])).length) Slot.unset).toArray = ls at hl ⊢
  have hl : lv_has ls 2 [(0, .ref mo), (1, .int v)] := hl
  refine lv_iload_n hx hb dX6_append_0 rfl (lv_at hl 1 rfl) ?_
  refine lv_i2l hx hb dX6_append_1 rfl ?_
  refine lv_ldc2 (own := RX6) (v := (32)) hx hb hown (hts (.constantLong RX6 33 (32)) (by decide +kernel)) dX6_append_2 ?_
  refine lv_ldc2 (own := RX6) (v := (126)) hx hb hown (hts (.constantLong RX6 35 (126)) (by decide +kernel)) dX6_append_5 ?_
  refine hk_csi (va_runS (As := [.long v.toInt64, .long (32), .long (126)]) (rest := []) ⟨hx, hb, hml, hown, hts⟩ (c6_in l D g ti v.toInt64 (32) (126) ) (va_cwS 3 hts gX6_append_X6_in rfl rfl rfl (by decide +kernel) ⟨Nat.le_of_ble_eq_true rfl, Nat.le_of_ble_eq_true rfl⟩) (hk_roS hE hP hS [] rfl) rfl rfl hl.1 rfl (lv_room (Nat.le_of_ble_eq_true rfl)) dX6_append_8 ⟨Nat.zero_le _, Nat.zero_le _⟩) (fun r_1 hr_2 => ?_)
  subst hr_2
  refine hk_ti (bI (decide (¬ v < 32) && decide (v ≤ 126))) (by rw [in_ap]) ?_
  refine lv_if_ne (tgt := 17) hx hb dX6_append_11 (by decide) (fun c_3 => ?_) (fun c_3 => ?_)
  · have c_3h : ¬ bI (decide (¬ v < 32) && decide (v ≤ 126)) = (0 : Int32) := c_3
    refine lv_aload_n hx hb dX6_append_17 rfl (lv_at hl 0 rfl) ?_
    refine va_get (D := D) (ci := 6) (v := .int (nI ln)) (C := RX6) (T := TX6) (N := 11) hx hb hts hi6 hown hK hP 0 rfl rfl 5 (by decide) (hts (.fieldLink RX6 41 "SelfCheckingCircuitModel" "length" "I") (by decide +kernel)) (fun _ h9 => h9) rfl dX6_append_18 ?_
    refine lv_sipush (v := 200) hx hb dX6_append_21 (by decide) ?_
    refine lv_icmp_ne (tgt := 30) hx hb dX6_append_24 (by decide) (fun c_4 => ?_) (fun c_4 => ?_)
    · have c_4h : ¬ nI ln = (200 : Int32) := c_4
      refine lv_aload_n hx hb dX6_append_30 rfl (lv_at hl 0 rfl) ?_
      refine va_get (D := D) (ci := 6) (v := .ref mt) (C := RX6) (T := TX6) (N := 11) hx hb hts hi6 hown hK hP 0 rfl rfl 4 (by decide) (hts (.fieldLink RX6 19 "SelfCheckingCircuitModel" "text" "[I") (by decide +kernel)) (fun _ h9 => h9) rfl dX6_append_31 ?_
      refine lv_aload_n hx hb dX6_append_34 rfl (lv_at hl 0 rfl) ?_
      refine va_get (D := D) (ci := 6) (v := .int (nI ln)) (C := RX6) (T := TX6) (N := 11) hx hb hts hi6 hown hK hP 0 rfl rfl 5 (by decide) (hts (.fieldLink RX6 41 "SelfCheckingCircuitModel" "length" "I") (by decide +kernel)) (fun _ h9 => h9) rfl dX6_append_35 ?_
      refine lv_iload_n hx hb dX6_append_38 rfl (lv_at hl 1 rfl) ?_
      refine va_iast hx hb hK hP hD hS 1 1 rfl rfl (vp_in_nI (N := 200) hL (by decide)) dX6_append_39 (fun H locs hP hD hS => ?_)
      rw [show (nI ln).toNatClampNeg = ln from nI_clamp (by omega)] at hP hD
      have hP : va_P D vwCl [(mo, .inr (6, [.ref ms, .ref mr, .ref mk, .int (nI km), .ref mt, .int (nI ln), .int (nI sp), .int (nI rs), .int (nI ws), .ref mv, .ref me])), (mt, .inl (g.2.1, 200, .inl (upd fx ln v)))] H := hP
      have hD : va_D A [(mo, .inr (6, [.ref ms, .ref mr, .ref mk, .int (nI km), .ref mt, .int (nI ln), .int (nI sp), .int (nI rs), .int (nI ws), .ref mv, .ref me])), (mt, .inl (g.2.1, 200, .inl (upd fx ln v)))] := hD
      refine lv_aload_n hx hb dX6_append_40 rfl (lv_at hl 0 rfl) ?_
      refine lv_dup hx hb dX6_append_41 rfl ?_
      refine va_get (D := D) (ci := 6) (v := .int (nI ln)) (C := RX6) (T := TX6) (N := 11) hx hb hts hi6 hown hK hP 0 rfl rfl 5 (by decide) (hts (.fieldLink RX6 41 "SelfCheckingCircuitModel" "length" "I") (by decide +kernel)) (fun _ h9 => h9) rfl dX6_append_42 ?_
      refine lv_iconst (v := 1) hx hb dX6_append_45 (by decide) ?_
      refine lv_iadd hx hb dX6_append_46 ?_
      refine hk_ti (nI (ln + 1)) (nI_1 ln) ?_
      refine va_put (D := D) (ci := 6) (v := .int (nI (ln + 1))) (ty := .int) (C := RX6) (T := TX6) (N := 11) hx hb hts hi6 tyX6 tyX6_ok nmX6 hown hK hP hD hS 0 rfl rfl 5 (by decide) (hts (.fieldLink RX6 41 "SelfCheckingCircuitModel" "length" "I") (by decide +kernel)) (fun _ h9 => h9) rfl (by decide +kernel) rfl rfl (Nat.le_of_ble_eq_true rfl) dX6_append_47 (fun H locs hP hD hS => ?_)
      have hP : va_P D vwCl [(mo, .inr (6, [.ref ms, .ref mr, .ref mk, .int (nI km), .ref mt, .int (nI (ln + 1)), .int (nI sp), .int (nI rs), .int (nI ws), .ref mv, .ref me])), (mt, .inl (g.2.1, 200, .inl (upd fx ln v)))] H := hP
      have hD : va_D A [(mo, .inr (6, [.ref ms, .ref mr, .ref mk, .int (nI km), .ref mt, .int (nI (ln + 1)), .int (nI sp), .int (nI rs), .int (nI ws), .ref mv, .ref me])), (mt, .inl (g.2.1, 200, .inl (upd fx ln v)))] := hD
      refine lv_aload_n hx hb dX6_append_50 rfl (lv_at hl 0 rfl) ?_
      refine va_get (D := D) (ci := 6) (v := .int (nI (ln + 1))) (C := RX6) (T := TX6) (N := 11) hx hb hts hi6 hown hK hP 0 rfl rfl 5 (by decide) (hts (.fieldLink RX6 41 "SelfCheckingCircuitModel" "length" "I") (by decide +kernel)) (fun _ h9 => h9) rfl dX6_append_51 ?_
      have hP9 := hP.sub (ws' := [(mo, .inr (6, [.ref ms, .ref mr, .ref mk, .int (nI km), .ref mt, .int (nI (ln + 1)), .int (nI sp), .int (nI rs), .int (nI ws), .ref mv, .ref me])), (mt, .inl (g.2.1, 200, .inl (upd fx ln v)))]) [0, 1] rfl
      have hD9 := hD.sub (ws' := [(mo, .inr (6, [.ref ms, .ref mr, .ref mk, .int (nI km), .ref mt, .int (nI (ln + 1)), .int (nI sp), .int (nI rs), .int (nI ws), .ref mv, .ref me])), (mt, .inl (g.2.1, 200, .inl (upd fx ln v)))]) [0, 1] (by decide) rfl
      exact W.iret (v := nI (ln + 1)) hx hb hr (fun tt ht hW => ⟨⟨_, (), rfl, rfl, by rw [ht]; exact hP9, hD9⟩, hS.F ht⟩) hS.2.2 dX6_append_54
    · have c_4h : nI ln = (200 : Int32) := c_4
      exact absurd (nI_inj (b := 200) c_4 (by omega) (by decide)) (by omega)
  · have c_3h : bI (decide (¬ v < 32) && decide (v ≤ 126)) = (0 : Int32) := c_3
    exact absurd (bI_0.mp c_3) (by rw [decide_eq_true h32, decide_eq_true h126]; decide)
theorem ap_t {v : Int32} (h : (decide (¬ v < 32) && decide (v ≤ 126)) = true) : ¬ v < 32 ∧ v ≤ 126 := by
  rw [Bool.and_eq_true, decide_eq_true_eq, decide_eq_true_eq] at h; exact h
theorem ap_f {v : Int32} (h : (decide (¬ v < 32) && decide (v ≤ 126)) = false) : (-101 : Int32) = if v < 32 then -101 else if v ≤ 126 then -103 else -101 := by
  by_cases h1 : v < 32
  · rw [if_pos h1]
  · by_cases h2 : v ≤ 126
    · rw [decide_eq_true h1, decide_eq_true h2] at h; cases h
    · rw [if_neg h1, if_neg h2]
set_option maxHeartbeats 4000000 in
set_option maxRecDepth 100000 in
theorem c6_append_no (l : Launch) (D : va_G) (g : hk_G) (ti : Nat) (mo : Nat) (ms : Nat) (mr : Nat) (mk : Nat) (mt : Nat) (mv : Nat) (me : Nat) (km : Nat) (ln : Nat) (sp : Nat) (rs : Nat) (ws : Nat) (fx : Nat → Int32) (v : Int32) (hL : v < 32 ∨ ¬ v ≤ 126 ∨ ln = 200) : Met l yX6_append wsX6_append ({ frames := 1, cells := 0, slots := 0, locals := 25 }) (va_Pc [.ref mo, .int v] (hk_Ro D g ti [(mo, .inr (6, [.ref ms, .ref mr, .ref mk, .int (nI km), .ref mt, .int (nI ln), .int (nI sp), .int (nI rs), .int (nI ws), .ref mv, .ref me])), (mt, .inl (g.2.1, 200, .inl fx))])) (vp_Si (fun r => r = if v < 32 then -101 else if v ≤ 126 then -103 else -101)) 0 0 (fun _ => False) := by
  refine Met.ofW (cc := cX6_append) (maxL := 2) (ret := (some .int)) (by decide) rfl ?_
  intro p e s m args below meth c s₁ Bd hml hv
  obtain ⟨rfl, hP, hE⟩ := hv
  have hx := Bd.exec
  have hb := Bd.bytes
  have hr := Bd.returns
  have hts := atoms_spec (ws := wsX6_append) Bd.pre
  have hown : s.vm.findClass RX6 = some m.cls := findClass_of_methodNamed Bd.named
  have hlocks := Bd.notSynchronized
  have hK := hE.1
  have hi6 : ∀ w ∈ wsX60, w ∈ wsX6_append := fun w h => List.mem_cons_of_mem _ (List.mem_append_right _ h)
  have hS : va_S (fun _ => False) s.heap s.heap [] := va_S.rf
  have hl := lv_entry ([.ref mo, .int v]) (n := 2) (Nat.le_of_ble_eq_true rfl)
  rw [lg_entry_eq]
  generalize (lg_sl ([.ref mo, .int v]) ++ List.replicate (2 - (lg_sl ([.ref mo, .int v])).length) Slot.unset).toArray = ls at hl ⊢
  have hl : lv_has ls 2 [(0, .ref mo), (1, .int v)] := hl
  refine lv_iload_n hx hb dX6_append_0 rfl (lv_at hl 1 rfl) ?_
  refine lv_i2l hx hb dX6_append_1 rfl ?_
  refine lv_ldc2 (own := RX6) (v := (32)) hx hb hown (hts (.constantLong RX6 33 (32)) (by decide +kernel)) dX6_append_2 ?_
  refine lv_ldc2 (own := RX6) (v := (126)) hx hb hown (hts (.constantLong RX6 35 (126)) (by decide +kernel)) dX6_append_5 ?_
  refine hk_csi (va_runS (As := [.long v.toInt64, .long (32), .long (126)]) (rest := []) ⟨hx, hb, hml, hown, hts⟩ (c6_in l D g ti v.toInt64 (32) (126) ) (va_cwS 3 hts gX6_append_X6_in rfl rfl rfl (by decide +kernel) ⟨Nat.le_of_ble_eq_true rfl, Nat.le_of_ble_eq_true rfl⟩) (hk_roS hE hP hS [] rfl) rfl rfl hl.1 rfl (lv_room (Nat.le_of_ble_eq_true rfl)) dX6_append_8 ⟨Nat.zero_le _, Nat.zero_le _⟩) (fun r_1 hr_2 => ?_)
  subst hr_2
  refine hk_ti (bI (decide (¬ v < 32) && decide (v ≤ 126))) (by rw [in_ap]) ?_
  refine lv_if_ne (tgt := 17) hx hb dX6_append_11 (by decide) (fun c_3 => ?_) (fun c_3 => ?_)
  · have c_3h : ¬ bI (decide (¬ v < 32) && decide (v ≤ 126)) = (0 : Int32) := c_3
    refine lv_aload_n hx hb dX6_append_17 rfl (lv_at hl 0 rfl) ?_
    refine va_get (D := D) (ci := 6) (v := .int (nI ln)) (C := RX6) (T := TX6) (N := 11) hx hb hts hi6 hown hK hP 0 rfl rfl 5 (by decide) (hts (.fieldLink RX6 41 "SelfCheckingCircuitModel" "length" "I") (by decide +kernel)) (fun _ h9 => h9) rfl dX6_append_18 ?_
    refine lv_sipush (v := 200) hx hb dX6_append_21 (by decide) ?_
    refine lv_icmp_ne (tgt := 30) hx hb dX6_append_24 (by decide) (fun c_4 => ?_) (fun c_4 => ?_)
    · have c_4h : ¬ nI ln = (200 : Int32) := c_4
      exact absurd (by rw [(hL.resolve_left (ap_t (bI_n0 c_3)).1).resolve_left (fun q => q (ap_t (bI_n0 c_3)).2)]; rfl) c_4
    · have c_4h : nI ln = (200 : Int32) := c_4
      refine lv_bipush (v := (-103)) hx hb dX6_append_27 (by decide) ?_
      exact W.iret (v := (-103)) hx hb hr (fun tt ht hW => ⟨_, rfl, by rw [if_neg (ap_t (bI_n0 c_3)).1, if_pos (ap_t (bI_n0 c_3)).2], ht⟩) (fun _ h => by cases h) dX6_append_29
  · have c_3h : bI (decide (¬ v < 32) && decide (v ≤ 126)) = (0 : Int32) := c_3
    refine lv_bipush (v := (-101)) hx hb dX6_append_14 (by decide) ?_
    exact W.iret (v := (-101)) hx hb hr (fun tt ht hW => ⟨_, rfl, ap_f (bI_0.mp c_3), ht⟩) (fun _ h => by cases h) dX6_append_16
