theorem isF_ge {Q : Nat → Bool} {m : Nat} {r : Int32} (h : isF Q m r) (hm : m ≤ 64) : (¬ r < 0 → anB Q m = true) ∧ (r < 0 → anB Q m = false) := by
  rcases h with ⟨w, h1, h2, -, rfl⟩ | ⟨h1, rfl⟩
  · exact ⟨fun _ => (anB_iff Q m).mpr ⟨w, h1, h2⟩, fun q => absurd q (nI_pos (by omega))⟩
  · refine ⟨fun q => absurd (by decide) q, fun _ => ?_⟩
    cases hb : anB Q m
    · rfl
    · obtain ⟨i, hi, h3⟩ := (anB_iff Q m).mp hb
      rw [h1 i hi] at h3; cases h3
set_option maxHeartbeats 4000000 in
set_option maxRecDepth 100000 in
theorem c6_testableFaults (l : Launch) (D : va_G) (g : hk_G) (ti : Nat) (sz : Nat) (mo : Nat) (ms : Nat) (mr : Nat) (mk : Nat) (mt : Nat) (mv : Nat) (me : Nat) (fs : Nat → Int32) (km : Nat) (ln : Nat) (sp : Nat) (rs : Nat) (ws : Nat) (fv : Nat → Int32) (n : Nat) (N : Nat) (o : Nat) (cd : Nat) (wt : Nat) (ty : Nat → Nat) (pa : Nat → Nat) (pb : Nat → Nat) (vo : Nat → Nat) (nm : Int64) (hC : Cok n N o cd wt) (hM : MR n N o cd wt ty pa pb vo nm fs) : Met l yX6_testableFaults wsX6_testableFaults ({ frames := 5, cells := 0, slots := 0, locals := 113 }) (va_Pc [.ref mo] (hk_In D g ti [(mo, .inr (6, [.ref ms, .ref mr, .ref mk, .int (nI km), .ref mt, .int (nI ln), .int (nI sp), .int (nI rs), .int (nI ws), .ref mv, .ref me])), (ms, .inl (g.2.1, 147, .inl fs)), (mv, .inl (g.2.1, 30, .inl fv))] sz)) (va_Qi (S := Nat → Int32) (fun r _ => r = nI (ct (fun k => anB (exB n o cd wt ty pa pb vo nm (nI k)) (2 ^ n)) (2 * N))) (fun u => hk_Out D (va_A [(mo, .inr (6, [.ref ms, .ref mr, .ref mk, .int (nI km), .ref mt, .int (nI ln), .int (nI sp), .int (nI rs), .int (nI ws), .ref mv, .ref me])), (ms, .inl (g.2.1, 147, .inl fs)), (mv, .inl (g.2.1, 30, .inl fv))] sz) (match u with | f' => [(mo, .inr (6, [.ref ms, .ref mr, .ref mk, .int (nI km), .ref mt, .int (nI ln), .int (nI sp), .int (nI rs), .int (nI ws), .ref mv, .ref me])), (ms, .inl (g.2.1, 147, .inl fs)), (mv, .inl (g.2.1, 30, .inl f'))])) (va_A [(mo, .inr (6, [.ref ms, .ref mr, .ref mk, .int (nI km), .ref mt, .int (nI ln), .int (nI sp), .int (nI rs), .int (nI ws), .ref mv, .ref me])), (ms, .inl (g.2.1, 147, .inl fs)), (mv, .inl (g.2.1, 30, .inl fv))] sz)) 0 0 (va_A [(mo, .inr (6, [.ref ms, .ref mr, .ref mk, .int (nI km), .ref mt, .int (nI ln), .int (nI sp), .int (nI rs), .int (nI ws), .ref mv, .ref me])), (ms, .inl (g.2.1, 147, .inl fs)), (mv, .inl (g.2.1, 30, .inl fv))] sz) := by
  refine Met.ofW (cc := cX6_testableFaults) (maxL := 3) (ret := (some .int)) (by decide) rfl ?_
  intro p e s m args below meth c s₁ Bd hml hv
  obtain ⟨rfl, hsz, hP, hD0, hE⟩ := hv
  have hx := Bd.exec
  have hb := Bd.bytes
  have hr := Bd.returns
  have hts := atoms_spec (ws := wsX6_testableFaults) Bd.pre
  have hown : s.vm.findClass RX6 = some m.cls := findClass_of_methodNamed Bd.named
  have hlocks := Bd.notSynchronized
  have hK := hE.1
  have hi6 : ∀ w ∈ wsX60, w ∈ wsX6_testableFaults := fun w h => List.mem_cons_of_mem _ (List.mem_append_right _ h)
  subst hsz
  have hD := hD0.self (sz := s.heap.size)
  generalize hAe : va_A [(mo, .inr (6, [.ref ms, .ref mr, .ref mk, .int (nI km), .ref mt, .int (nI ln), .int (nI sp), .int (nI rs), .int (nI ws), .ref mv, .ref me])), (ms, .inl (g.2.1, 147, .inl fs)), (mv, .inl (g.2.1, 30, .inl fv))] s.heap.size = A at hD hE ⊢
  have hA : ∀ q : Nat, s.heap.size ≤ q → A q := fun q h => by rw [← hAe]; exact Or.inr h
  have hS : va_S A s.heap s.heap [] := va_S.rf
  have hl := lv_entry ([.ref mo]) (n := 3) (Nat.le_of_ble_eq_true rfl)
  rw [lg_entry_eq]
  generalize (lg_sl ([.ref mo]) ++ List.replicate (3 - (lg_sl ([.ref mo])).length) Slot.unset).toArray = ls at hl ⊢
  have hl : lv_has ls 3 [(0, .ref mo)] := hl
  refine lv_iconst (v := 0) hx hb dX6_testableFaults_0 (by decide) ?_
  refine lv_istore_n (lv' := [(1, .int 0), (0, .ref mo)]) hx hb dX6_testableFaults_1 rfl hl (by decide) rfl (fun ls hl => ?_)
  refine lv_iconst (v := 0) hx hb dX6_testableFaults_2 (by decide) ?_
  refine lv_istore_n (lv' := [(2, .int 0), (1, .int 0), (0, .ref mo)]) hx hb dX6_testableFaults_3 rfl hl (by decide) rfl (fun ls hl => ?_)
  have loop4 : ∀ (fuel : Nat) (k : Nat) (cv : Int32) (gv : Nat → Int32), (2 * N - k) < fuel → (k ≤ 2 * N) → (cv = nI (ct (fun k => anB (exB n o cd wt ty pa pb vo nm (nI k)) (2 ^ n)) k)) → ∀ (H : Heap) (locs : List Loc), va_P D vwCl [(mo, .inr (6, [.ref ms, .ref mr, .ref mk, .int (nI km), .ref mt, .int (nI ln), .int (nI sp), .int (nI rs), .int (nI ws), .ref mv, .ref me])), (ms, .inl (g.2.1, 147, .inl fs)), (mv, .inl (g.2.1, 30, .inl gv))] H → va_D A [(mo, .inr (6, [.ref ms, .ref mr, .ref mk, .int (nI km), .ref mt, .int (nI ln), .int (nI sp), .int (nI rs), .int (nI ws), .ref mv, .ref me])), (ms, .inl (g.2.1, 147, .inl fs)), (mv, .inl (g.2.1, 30, .inl gv))] → va_S A s.heap H locs → ∀ ls : Array Slot, lv_has ls 3 [(2, .int (nI k)), (1, .int cv), (0, .ref mo)] → W p l e (headSpec wsX6_testableFaults ({ frames := 5, cells := 0, slots := 0, locals := 113 })).room s m ([.ref mo] : List Value).toArray below meth c H locs 0 0 (MQ below (va_Qi (S := Nat → Int32) (fun r _ => r = nI (ct (fun k => anB (exB n o cd wt ty pa pb vo nm (nI k)) (2 ^ n)) (2 * N))) (fun u => hk_Out D A (match u with | f' => [(mo, .inr (6, [.ref ms, .ref mr, .ref mk, .int (nI km), .ref mt, .int (nI ln), .int (nI sp), .int (nI rs), .int (nI ws), .ref mv, .ref me])), (ms, .inl (g.2.1, 147, .inl fs)), (mv, .inl (g.2.1, 30, .inl f'))])) A) ([.ref mo] : List Value).toArray s 0 0 A) (F0 m 4 ls []) := by
    intro fuel
    induction fuel with
    | zero => intro k cv gv hm; exact absurd hm (Nat.not_lt_zero _)
    | succ fuel ih_4 =>
      intro k cv gv hm_4 hk hcv H locs hP hD hS ls hl
      refine lv_iload_n hx hb dX6_testableFaults_4 rfl (lv_at hl 0 rfl) ?_
      refine lv_iconst (v := 2) hx hb dX6_testableFaults_5 (by decide) ?_
      refine lv_aload_n hx hb dX6_testableFaults_6 rfl (lv_at hl 2 rfl) ?_
      refine va_get (D := D) (ci := 6) (v := .ref ms) (C := RX6) (T := TX6) (N := 11) hx hb hts hi6 hown hK hP 0 rfl rfl 0 (by decide) (hts (.fieldLink RX6 7 "SelfCheckingCircuitModel" "s" "[I") (by decide +kernel)) (fun _ h9 => h9) rfl dX6_testableFaults_7 ?_
      refine hk_csi (va_runS (As := [.ref ms]) (rest := [.int 2, .int (nI k)]) ⟨hx, hb, hml, hown, hts⟩ (c6_nodesOf l D g ti ms fs ) (va_cwS 1 hts gX6_testableFaults_X6_nodesOf rfl rfl rfl (by decide +kernel) ⟨Nat.le_of_ble_eq_true rfl, Nat.le_of_ble_eq_true rfl⟩) (hk_roS hE hP hS [1] rfl) rfl rfl hl.1 rfl (lv_room (Nat.le_of_ble_eq_true rfl)) dX6_testableFaults_10 ⟨Nat.zero_le _, Nat.zero_le _⟩) (fun r_1 hr_2 => ?_)
      subst hr_2
      refine hk_ti (nI N) (by rw [hM.1.1, hM.1.2.1, nI_add, Nat.add_sub_cancel' hC.2.2.1]) ?_
      refine lv_imul hx hb dX6_testableFaults_13 ?_
      refine hk_ti (nI (2 * N)) (pk_mul 2 N) ?_
      refine lv_icmp_ge (tgt := 39) hx hb dX6_testableFaults_14 (by decide) (fun c_3 => ?_) (fun c_3 => ?_)
      · have c_3h : nI (2 * N) ≤ nI k := c_3
        refine lv_iload_n hx hb dX6_testableFaults_39 rfl (lv_at hl 1 rfl) ?_
        have hP9 := hP.sub (ws' := [(mo, .inr (6, [.ref ms, .ref mr, .ref mk, .int (nI km), .ref mt, .int (nI ln), .int (nI sp), .int (nI rs), .int (nI ws), .ref mv, .ref me])), (ms, .inl (g.2.1, 147, .inl fs)), (mv, .inl (g.2.1, 30, .inl gv))]) [0, 1, 2] rfl
        have hD9 := hD.sub (ws' := [(mo, .inr (6, [.ref ms, .ref mr, .ref mk, .int (nI km), .ref mt, .int (nI ln), .int (nI sp), .int (nI rs), .int (nI ws), .ref mv, .ref me])), (ms, .inl (g.2.1, 147, .inl fs)), (mv, .inl (g.2.1, 30, .inl gv))]) [0, 1, 2] (by decide) rfl
        exact W.iret (v := cv) hx hb hr (fun tt ht hW => ⟨⟨_, gv, rfl, by rw [hcv, show k = 2 * N by have := hk_ge (2 * N) c_3 (hi := by have := hC.2.2.2.1; have := hC.2.1; omega) (hn := by have := hC.2.2.2.1; have := hC.2.1; omega); omega], by rw [ht]; exact hP9, hD9⟩, hS.F ht⟩) hS.2.2 dX6_testableFaults_40
      · have c_3h : ¬ nI (2 * N) ≤ nI k := c_3
        refine lv_iload_n hx hb dX6_testableFaults_17 rfl (lv_at hl 1 rfl) ?_
        refine lv_aload_n hx hb dX6_testableFaults_18 rfl (lv_at hl 2 rfl) ?_
        refine lv_iload_n hx hb dX6_testableFaults_19 rfl (lv_at hl 0 rfl) ?_
        refine hk_cmi (wr := []) (va_runV (As := [.int (nI k)]) (rest := [.int cv]) ⟨hx, hb, hml, hown, hts⟩ (c6_test l D g ti _ mo ms mr mk mt mv me fs km ln sp rs ws gv n N o cd wt ty pa pb vo nm (nI k) hC hM (Or.inr ⟨k, by have := (hk_nge (2 * N) c_3 (hi := by have := hC.2.2.2.1; have := hC.2.1; omega) (hn := by have := hC.2.2.2.1; have := hC.2.1; omega)); have := hC.2.2.2.1; have := hC.2.1; omega, rfl⟩)) (cwV 1 hts gX6_testableFaults_X6_test rfl rfl rfl (by decide +kernel) ⟨Nat.le_of_ble_eq_true rfl, Nat.le_of_ble_eq_true rfl⟩) (hk_inV hE hP hD hS hA 6 rfl rfl [0, 1, 2] (by decide) rfl rfl) rfl rfl hl.1 rfl (lv_room (Nat.le_of_ble_eq_true rfl)) dX6_testableFaults_20 ⟨Nat.zero_le _, Nat.zero_le _⟩) hP hD hS hA [0, 1, 2] [] rfl rfl (by decide) (by decide) (fun rt_ tv H locs hr_4 hP hD hS => ?_)
        try dsimp only at hr_4
        have hP : va_P D vwCl [(mo, .inr (6, [.ref ms, .ref mr, .ref mk, .int (nI km), .ref mt, .int (nI ln), .int (nI sp), .int (nI rs), .int (nI ws), .ref mv, .ref me])), (ms, .inl (g.2.1, 147, .inl fs)), (mv, .inl (g.2.1, 30, .inl tv))] H := hP
        have hD : va_D A [(mo, .inr (6, [.ref ms, .ref mr, .ref mk, .int (nI km), .ref mt, .int (nI ln), .int (nI sp), .int (nI rs), .int (nI ws), .ref mv, .ref me])), (ms, .inl (g.2.1, 147, .inl fs)), (mv, .inl (g.2.1, 30, .inl tv))] := hD
        refine lv_if_lt (tgt := 30) hx hb dX6_testableFaults_23 (by decide) (fun c_5 => ?_) (fun c_5 => ?_)
        · have c_5h : rt_ < (0 : Int32) := c_5
          refine lv_iconst (v := 0) hx hb dX6_testableFaults_30 (by decide) ?_
          refine lv_iadd hx hb dX6_testableFaults_31 ?_
          refine lv_istore_n (lv' := [(1, .int (cv + (0 : Int32))), (2, .int (nI k)), (0, .ref mo)]) hx hb dX6_testableFaults_32 rfl hl (by decide) rfl (fun ls hl => ?_)
          refine lv_iinc (v := (nI (k + 1))) (lv' := [(2, .int (nI (k + 1))), (1, .int (cv + (0 : Int32))), (0, .ref mo)]) hx hb dX6_testableFaults_33 hl (k := 1) rfl (nI_1 k) (by decide) rfl (fun ls hl => ?_)
          refine lv_goto (tgt := 4) hx hb dX6_testableFaults_36 (by decide) ?_
          have hlt : k < 2 * N := (hk_nge (2 * N) c_3 (hi := by have := hC.2.2.2.1; have := hC.2.1; omega) (hn := by have := hC.2.2.2.1; have := hC.2.1; omega))
          exact ih_4 (k + 1) (cv + (0 : Int32)) tv (by omega) (by omega) (by show _ = nI (ct (fun k => anB (exB n o cd wt ty pa pb vo nm (nI k)) (2 ^ n)) k + (if _ then 1 else 0)); rw [show (fun k => anB (exB n o cd wt ty pa pb vo nm (nI k)) (2 ^ n)) k = false from by show anB (exB n o cd wt ty pa pb vo nm (nI k)) (2 ^ n) = false; rw [(isF_ge hr_4 (pw_le hC.2.1)).2 c_5]]; rw [hcv]; exact nI_add _ 0) _ _ hP hD hS _ (lv_sub hl [0, 1, 2] rfl)
        · have c_5h : ¬ rt_ < (0 : Int32) := c_5
          refine lv_iconst (v := 1) hx hb dX6_testableFaults_26 (by decide) ?_
          refine lv_goto (tgt := 31) hx hb dX6_testableFaults_27 (by decide) ?_
          refine lv_iadd hx hb dX6_testableFaults_31 ?_
          refine lv_istore_n (lv' := [(1, .int (cv + (1 : Int32))), (2, .int (nI k)), (0, .ref mo)]) hx hb dX6_testableFaults_32 rfl hl (by decide) rfl (fun ls hl => ?_)
          refine lv_iinc (v := (nI (k + 1))) (lv' := [(2, .int (nI (k + 1))), (1, .int (cv + (1 : Int32))), (0, .ref mo)]) hx hb dX6_testableFaults_33 hl (k := 1) rfl (nI_1 k) (by decide) rfl (fun ls hl => ?_)
          refine lv_goto (tgt := 4) hx hb dX6_testableFaults_36 (by decide) ?_
          have hlt : k < 2 * N := (hk_nge (2 * N) c_3 (hi := by have := hC.2.2.2.1; have := hC.2.1; omega) (hn := by have := hC.2.2.2.1; have := hC.2.1; omega))
          exact ih_4 (k + 1) (cv + (1 : Int32)) tv (by omega) (by omega) (by show _ = nI (ct (fun k => anB (exB n o cd wt ty pa pb vo nm (nI k)) (2 ^ n)) k + (if _ then 1 else 0)); rw [show (fun k => anB (exB n o cd wt ty pa pb vo nm (nI k)) (2 ^ n)) k = true from by show anB (exB n o cd wt ty pa pb vo nm (nI k)) (2 ^ n) = true; rw [(isF_ge hr_4 (pw_le hC.2.1)).1 c_5]]; rw [hcv]; exact nI_1 _) _ _ hP hD hS _ (lv_sub hl [0, 1, 2] rfl)
  exact loop4 _ 0 0 fv (Nat.lt_succ_self _) (Nat.zero_le _) rfl _ _ hP hD hS _ (lv_sub hl [0, 1, 2] rfl)
set_option maxHeartbeats 4000000 in
set_option maxRecDepth 100000 in
theorem c6_secureFaults (l : Launch) (D : va_G) (g : hk_G) (ti : Nat) (sz : Nat) (mo : Nat) (ms : Nat) (mr : Nat) (mk : Nat) (mt : Nat) (mv : Nat) (me : Nat) (fs : Nat → Int32) (km : Nat) (ln : Nat) (sp : Nat) (rs : Nat) (ws : Nat) (fv : Nat → Int32) (n : Nat) (N : Nat) (o : Nat) (cd : Nat) (wt : Nat) (ty : Nat → Nat) (pa : Nat → Nat) (pb : Nat → Nat) (vo : Nat → Nat) (nm : Int64) (hC : Cok n N o cd wt) (hM : MR n N o cd wt ty pa pb vo nm fs) : Met l yX6_secureFaults wsX6_secureFaults ({ frames := 5, cells := 0, slots := 0, locals := 115 }) (va_Pc [.ref mo] (hk_In D g ti [(mo, .inr (6, [.ref ms, .ref mr, .ref mk, .int (nI km), .ref mt, .int (nI ln), .int (nI sp), .int (nI rs), .int (nI ws), .ref mv, .ref me])), (ms, .inl (g.2.1, 147, .inl fs)), (mv, .inl (g.2.1, 30, .inl fv))] sz)) (va_Qi (S := Nat → Int32) (fun r _ => r = nI (ct (fun k => !anB (unB n o cd wt ty pa pb vo nm (nI k)) (2 ^ n)) (2 * N))) (fun u => hk_Out D (va_A [(mo, .inr (6, [.ref ms, .ref mr, .ref mk, .int (nI km), .ref mt, .int (nI ln), .int (nI sp), .int (nI rs), .int (nI ws), .ref mv, .ref me])), (ms, .inl (g.2.1, 147, .inl fs)), (mv, .inl (g.2.1, 30, .inl fv))] sz) (match u with | f' => [(mo, .inr (6, [.ref ms, .ref mr, .ref mk, .int (nI km), .ref mt, .int (nI ln), .int (nI sp), .int (nI rs), .int (nI ws), .ref mv, .ref me])), (ms, .inl (g.2.1, 147, .inl fs)), (mv, .inl (g.2.1, 30, .inl f'))])) (va_A [(mo, .inr (6, [.ref ms, .ref mr, .ref mk, .int (nI km), .ref mt, .int (nI ln), .int (nI sp), .int (nI rs), .int (nI ws), .ref mv, .ref me])), (ms, .inl (g.2.1, 147, .inl fs)), (mv, .inl (g.2.1, 30, .inl fv))] sz)) 0 0 (va_A [(mo, .inr (6, [.ref ms, .ref mr, .ref mk, .int (nI km), .ref mt, .int (nI ln), .int (nI sp), .int (nI rs), .int (nI ws), .ref mv, .ref me])), (ms, .inl (g.2.1, 147, .inl fs)), (mv, .inl (g.2.1, 30, .inl fv))] sz) := by
  refine Met.ofW (cc := cX6_secureFaults) (maxL := 3) (ret := (some .int)) (by decide) rfl ?_
  intro p e s m args below meth c s₁ Bd hml hv
  obtain ⟨rfl, hsz, hP, hD0, hE⟩ := hv
  have hx := Bd.exec
  have hb := Bd.bytes
  have hr := Bd.returns
  have hts := atoms_spec (ws := wsX6_secureFaults) Bd.pre
  have hown : s.vm.findClass RX6 = some m.cls := findClass_of_methodNamed Bd.named
  have hlocks := Bd.notSynchronized
  have hK := hE.1
  have hi6 : ∀ w ∈ wsX60, w ∈ wsX6_secureFaults := fun w h => List.mem_cons_of_mem _ (List.mem_append_right _ h)
  subst hsz
  have hD := hD0.self (sz := s.heap.size)
  generalize hAe : va_A [(mo, .inr (6, [.ref ms, .ref mr, .ref mk, .int (nI km), .ref mt, .int (nI ln), .int (nI sp), .int (nI rs), .int (nI ws), .ref mv, .ref me])), (ms, .inl (g.2.1, 147, .inl fs)), (mv, .inl (g.2.1, 30, .inl fv))] s.heap.size = A at hD hE ⊢
  have hA : ∀ q : Nat, s.heap.size ≤ q → A q := fun q h => by rw [← hAe]; exact Or.inr h
  have hS : va_S A s.heap s.heap [] := va_S.rf
  have hl := lv_entry ([.ref mo]) (n := 3) (Nat.le_of_ble_eq_true rfl)
  rw [lg_entry_eq]
  generalize (lg_sl ([.ref mo]) ++ List.replicate (3 - (lg_sl ([.ref mo])).length) Slot.unset).toArray = ls at hl ⊢
  have hl : lv_has ls 3 [(0, .ref mo)] := hl
  refine lv_iconst (v := 0) hx hb dX6_secureFaults_0 (by decide) ?_
  refine lv_istore_n (lv' := [(1, .int 0), (0, .ref mo)]) hx hb dX6_secureFaults_1 rfl hl (by decide) rfl (fun ls hl => ?_)
  refine lv_iconst (v := 0) hx hb dX6_secureFaults_2 (by decide) ?_
  refine lv_istore_n (lv' := [(2, .int 0), (1, .int 0), (0, .ref mo)]) hx hb dX6_secureFaults_3 rfl hl (by decide) rfl (fun ls hl => ?_)
  have loop4 : ∀ (fuel : Nat) (k : Nat) (cv : Int32) (gv : Nat → Int32), (2 * N - k) < fuel → (k ≤ 2 * N) → (cv = nI (ct (fun k => !anB (unB n o cd wt ty pa pb vo nm (nI k)) (2 ^ n)) k)) → ∀ (H : Heap) (locs : List Loc), va_P D vwCl [(mo, .inr (6, [.ref ms, .ref mr, .ref mk, .int (nI km), .ref mt, .int (nI ln), .int (nI sp), .int (nI rs), .int (nI ws), .ref mv, .ref me])), (ms, .inl (g.2.1, 147, .inl fs)), (mv, .inl (g.2.1, 30, .inl gv))] H → va_D A [(mo, .inr (6, [.ref ms, .ref mr, .ref mk, .int (nI km), .ref mt, .int (nI ln), .int (nI sp), .int (nI rs), .int (nI ws), .ref mv, .ref me])), (ms, .inl (g.2.1, 147, .inl fs)), (mv, .inl (g.2.1, 30, .inl gv))] → va_S A s.heap H locs → ∀ ls : Array Slot, lv_has ls 3 [(2, .int (nI k)), (1, .int cv), (0, .ref mo)] → W p l e (headSpec wsX6_secureFaults ({ frames := 5, cells := 0, slots := 0, locals := 115 })).room s m ([.ref mo] : List Value).toArray below meth c H locs 0 0 (MQ below (va_Qi (S := Nat → Int32) (fun r _ => r = nI (ct (fun k => !anB (unB n o cd wt ty pa pb vo nm (nI k)) (2 ^ n)) (2 * N))) (fun u => hk_Out D A (match u with | f' => [(mo, .inr (6, [.ref ms, .ref mr, .ref mk, .int (nI km), .ref mt, .int (nI ln), .int (nI sp), .int (nI rs), .int (nI ws), .ref mv, .ref me])), (ms, .inl (g.2.1, 147, .inl fs)), (mv, .inl (g.2.1, 30, .inl f'))])) A) ([.ref mo] : List Value).toArray s 0 0 A) (F0 m 4 ls []) := by
    intro fuel
    induction fuel with
    | zero => intro k cv gv hm; exact absurd hm (Nat.not_lt_zero _)
    | succ fuel ih_4 =>
      intro k cv gv hm_4 hk hcv H locs hP hD hS ls hl
      refine lv_iload_n hx hb dX6_secureFaults_4 rfl (lv_at hl 0 rfl) ?_
      refine lv_iconst (v := 2) hx hb dX6_secureFaults_5 (by decide) ?_
      refine lv_aload_n hx hb dX6_secureFaults_6 rfl (lv_at hl 2 rfl) ?_
      refine va_get (D := D) (ci := 6) (v := .ref ms) (C := RX6) (T := TX6) (N := 11) hx hb hts hi6 hown hK hP 0 rfl rfl 0 (by decide) (hts (.fieldLink RX6 7 "SelfCheckingCircuitModel" "s" "[I") (by decide +kernel)) (fun _ h9 => h9) rfl dX6_secureFaults_7 ?_
      refine hk_csi (va_runS (As := [.ref ms]) (rest := [.int 2, .int (nI k)]) ⟨hx, hb, hml, hown, hts⟩ (c6_nodesOf l D g ti ms fs ) (va_cwS 1 hts gX6_secureFaults_X6_nodesOf rfl rfl rfl (by decide +kernel) ⟨Nat.le_of_ble_eq_true rfl, Nat.le_of_ble_eq_true rfl⟩) (hk_roS hE hP hS [1] rfl) rfl rfl hl.1 rfl (lv_room (Nat.le_of_ble_eq_true rfl)) dX6_secureFaults_10 ⟨Nat.zero_le _, Nat.zero_le _⟩) (fun r_1 hr_2 => ?_)
      subst hr_2
      refine hk_ti (nI N) (by rw [hM.1.1, hM.1.2.1, nI_add, Nat.add_sub_cancel' hC.2.2.1]) ?_
      refine lv_imul hx hb dX6_secureFaults_13 ?_
      refine hk_ti (nI (2 * N)) (pk_mul 2 N) ?_
      refine lv_icmp_ge (tgt := 39) hx hb dX6_secureFaults_14 (by decide) (fun c_3 => ?_) (fun c_3 => ?_)
      · have c_3h : nI (2 * N) ≤ nI k := c_3
        refine lv_iload_n hx hb dX6_secureFaults_39 rfl (lv_at hl 1 rfl) ?_
        have hP9 := hP.sub (ws' := [(mo, .inr (6, [.ref ms, .ref mr, .ref mk, .int (nI km), .ref mt, .int (nI ln), .int (nI sp), .int (nI rs), .int (nI ws), .ref mv, .ref me])), (ms, .inl (g.2.1, 147, .inl fs)), (mv, .inl (g.2.1, 30, .inl gv))]) [0, 1, 2] rfl
        have hD9 := hD.sub (ws' := [(mo, .inr (6, [.ref ms, .ref mr, .ref mk, .int (nI km), .ref mt, .int (nI ln), .int (nI sp), .int (nI rs), .int (nI ws), .ref mv, .ref me])), (ms, .inl (g.2.1, 147, .inl fs)), (mv, .inl (g.2.1, 30, .inl gv))]) [0, 1, 2] (by decide) rfl
        exact W.iret (v := cv) hx hb hr (fun tt ht hW => ⟨⟨_, gv, rfl, by rw [hcv, show k = 2 * N by have := hk_ge (2 * N) c_3 (hi := by have := hC.2.2.2.1; have := hC.2.1; omega) (hn := by have := hC.2.2.2.1; have := hC.2.1; omega); omega], by rw [ht]; exact hP9, hD9⟩, hS.F ht⟩) hS.2.2 dX6_secureFaults_40
      · have c_3h : ¬ nI (2 * N) ≤ nI k := c_3
        refine lv_iload_n hx hb dX6_secureFaults_17 rfl (lv_at hl 1 rfl) ?_
        refine lv_aload_n hx hb dX6_secureFaults_18 rfl (lv_at hl 2 rfl) ?_
        refine lv_iload_n hx hb dX6_secureFaults_19 rfl (lv_at hl 0 rfl) ?_
        refine hk_cmi (wr := []) (va_runV (As := [.int (nI k)]) (rest := [.int cv]) ⟨hx, hb, hml, hown, hts⟩ (c6_unsafe l D g ti _ mo ms mr mk mt mv me fs km ln sp rs ws gv n N o cd wt ty pa pb vo nm (nI k) hC hM (Or.inr ⟨k, by have := (hk_nge (2 * N) c_3 (hi := by have := hC.2.2.2.1; have := hC.2.1; omega) (hn := by have := hC.2.2.2.1; have := hC.2.1; omega)); have := hC.2.2.2.1; have := hC.2.1; omega, rfl⟩)) (cwV 1 hts gX6_secureFaults_X6_unsafe rfl rfl rfl (by decide +kernel) ⟨Nat.le_of_ble_eq_true rfl, Nat.le_of_ble_eq_true rfl⟩) (hk_inV hE hP hD hS hA 6 rfl rfl [0, 1, 2] (by decide) rfl rfl) rfl rfl hl.1 rfl (lv_room (Nat.le_of_ble_eq_true rfl)) dX6_secureFaults_20 ⟨Nat.zero_le _, Nat.zero_le _⟩) hP hD hS hA [0, 1, 2] [] rfl rfl (by decide) (by decide) (fun rt_ tv H locs hr_4 hP hD hS => ?_)
        try dsimp only at hr_4
        have hP : va_P D vwCl [(mo, .inr (6, [.ref ms, .ref mr, .ref mk, .int (nI km), .ref mt, .int (nI ln), .int (nI sp), .int (nI rs), .int (nI ws), .ref mv, .ref me])), (ms, .inl (g.2.1, 147, .inl fs)), (mv, .inl (g.2.1, 30, .inl tv))] H := hP
        have hD : va_D A [(mo, .inr (6, [.ref ms, .ref mr, .ref mk, .int (nI km), .ref mt, .int (nI ln), .int (nI sp), .int (nI rs), .int (nI ws), .ref mv, .ref me])), (ms, .inl (g.2.1, 147, .inl fs)), (mv, .inl (g.2.1, 30, .inl tv))] := hD
        refine lv_if_ge (tgt := 30) hx hb dX6_secureFaults_23 (by decide) (fun c_5 => ?_) (fun c_5 => ?_)
        · have c_5h : (0 : Int32) ≤ rt_ := c_5
          refine lv_iconst (v := 0) hx hb dX6_secureFaults_30 (by decide) ?_
          refine lv_iadd hx hb dX6_secureFaults_31 ?_
          refine lv_istore_n (lv' := [(1, .int (cv + (0 : Int32))), (2, .int (nI k)), (0, .ref mo)]) hx hb dX6_secureFaults_32 rfl hl (by decide) rfl (fun ls hl => ?_)
          refine lv_iinc (v := (nI (k + 1))) (lv' := [(2, .int (nI (k + 1))), (1, .int (cv + (0 : Int32))), (0, .ref mo)]) hx hb dX6_secureFaults_33 hl (k := 1) rfl (nI_1 k) (by decide) rfl (fun ls hl => ?_)
          refine lv_goto (tgt := 4) hx hb dX6_secureFaults_36 (by decide) ?_
          have hlt : k < 2 * N := (hk_nge (2 * N) c_3 (hi := by have := hC.2.2.2.1; have := hC.2.1; omega) (hn := by have := hC.2.2.2.1; have := hC.2.1; omega))
          exact ih_4 (k + 1) (cv + (0 : Int32)) tv (by omega) (by omega) (by show _ = nI (ct (fun k => !anB (unB n o cd wt ty pa pb vo nm (nI k)) (2 ^ n)) k + (if _ then 1 else 0)); rw [show (fun k => !anB (unB n o cd wt ty pa pb vo nm (nI k)) (2 ^ n)) k = false from by show (!anB (unB n o cd wt ty pa pb vo nm (nI k)) (2 ^ n)) = false; rw [(isF_ge hr_4 (pw_le hC.2.1)).1 (Int32.not_lt.mpr c_5)]; rfl]; rw [hcv]; exact nI_add _ 0) _ _ hP hD hS _ (lv_sub hl [0, 1, 2] rfl)
        · have c_5h : ¬ (0 : Int32) ≤ rt_ := c_5
          refine lv_iconst (v := 1) hx hb dX6_secureFaults_26 (by decide) ?_
          refine lv_goto (tgt := 31) hx hb dX6_secureFaults_27 (by decide) ?_
          refine lv_iadd hx hb dX6_secureFaults_31 ?_
          refine lv_istore_n (lv' := [(1, .int (cv + (1 : Int32))), (2, .int (nI k)), (0, .ref mo)]) hx hb dX6_secureFaults_32 rfl hl (by decide) rfl (fun ls hl => ?_)
          refine lv_iinc (v := (nI (k + 1))) (lv' := [(2, .int (nI (k + 1))), (1, .int (cv + (1 : Int32))), (0, .ref mo)]) hx hb dX6_secureFaults_33 hl (k := 1) rfl (nI_1 k) (by decide) rfl (fun ls hl => ?_)
          refine lv_goto (tgt := 4) hx hb dX6_secureFaults_36 (by decide) ?_
          have hlt : k < 2 * N := (hk_nge (2 * N) c_3 (hi := by have := hC.2.2.2.1; have := hC.2.1; omega) (hn := by have := hC.2.2.2.1; have := hC.2.1; omega))
          exact ih_4 (k + 1) (cv + (1 : Int32)) tv (by omega) (by omega) (by show _ = nI (ct (fun k => !anB (unB n o cd wt ty pa pb vo nm (nI k)) (2 ^ n)) k + (if _ then 1 else 0)); rw [show (fun k => !anB (unB n o cd wt ty pa pb vo nm (nI k)) (2 ^ n)) k = true from by show (!anB (unB n o cd wt ty pa pb vo nm (nI k)) (2 ^ n)) = true; rw [(isF_ge hr_4 (pw_le hC.2.1)).2 (Int32.not_le.mp c_5)]; rfl]; rw [hcv]; exact nI_1 _) _ _ hP hD hS _ (lv_sub hl [0, 1, 2] rfl)
  exact loop4 _ 0 0 fv (Nat.lt_succ_self _) (Nat.zero_le _) rfl _ _ hP hD hS _ (lv_sub hl [0, 1, 2] rfl)
set_option maxHeartbeats 4000000 in
set_option maxRecDepth 100000 in
theorem c6_isCodeDisjoint (l : Launch) (D : va_G) (g : hk_G) (ti : Nat) (sz : Nat) (mo : Nat) (ms : Nat) (mr : Nat) (mk : Nat) (mt : Nat) (mv : Nat) (me : Nat) (fs : Nat → Int32) (km : Nat) (ln : Nat) (sp : Nat) (rs : Nat) (ws : Nat) (fv : Nat → Int32) (n : Nat) (N : Nat) (o : Nat) (cd : Nat) (wt : Nat) (ty : Nat → Nat) (pa : Nat → Nat) (pb : Nat → Nat) (vo : Nat → Nat) (nm : Int64) (hC : Cok n N o cd wt) (hM : MR n N o cd wt ty pa pb vo nm fs) : Met l yX6_isCodeDisjoint wsX6_isCodeDisjoint ({ frames := 3, cells := 0, slots := 0, locals := 69 }) (va_Pc [.ref mo] (hk_In D g ti [(mo, .inr (6, [.ref ms, .ref mr, .ref mk, .int (nI km), .ref mt, .int (nI ln), .int (nI sp), .int (nI rs), .int (nI ws), .ref mv, .ref me])), (ms, .inl (g.2.1, 147, .inl fs)), (mv, .inl (g.2.1, 30, .inl fv))] sz)) (va_Qi (S := Nat → Int32) (fun r _ => ((∀ w, w < 2 ^ n → ic cd o wt (oB n ty pa pb vo (-1) w) = lb nm w) ∧ r = 1) ∨ (¬ (∀ w, w < 2 ^ n → ic cd o wt (oB n ty pa pb vo (-1) w) = lb nm w) ∧ r = 0)) (fun u => hk_Out D (va_A [(mo, .inr (6, [.ref ms, .ref mr, .ref mk, .int (nI km), .ref mt, .int (nI ln), .int (nI sp), .int (nI rs), .int (nI ws), .ref mv, .ref me])), (ms, .inl (g.2.1, 147, .inl fs)), (mv, .inl (g.2.1, 30, .inl fv))] sz) (match u with | f' => [(mo, .inr (6, [.ref ms, .ref mr, .ref mk, .int (nI km), .ref mt, .int (nI ln), .int (nI sp), .int (nI rs), .int (nI ws), .ref mv, .ref me])), (ms, .inl (g.2.1, 147, .inl fs)), (mv, .inl (g.2.1, 30, .inl f'))])) (va_A [(mo, .inr (6, [.ref ms, .ref mr, .ref mk, .int (nI km), .ref mt, .int (nI ln), .int (nI sp), .int (nI rs), .int (nI ws), .ref mv, .ref me])), (ms, .inl (g.2.1, 147, .inl fs)), (mv, .inl (g.2.1, 30, .inl fv))] sz)) 0 0 (va_A [(mo, .inr (6, [.ref ms, .ref mr, .ref mk, .int (nI km), .ref mt, .int (nI ln), .int (nI sp), .int (nI rs), .int (nI ws), .ref mv, .ref me])), (ms, .inl (g.2.1, 147, .inl fs)), (mv, .inl (g.2.1, 30, .inl fv))] sz) := by
  refine Met.ofW (cc := cX6_isCodeDisjoint) (maxL := 3) (ret := (some .int)) (by decide) rfl ?_
  intro p e s m args below meth c s₁ Bd hml hv
  obtain ⟨rfl, hsz, hP, hD0, hE⟩ := hv
  have hx := Bd.exec
  have hb := Bd.bytes
  have hr := Bd.returns
  have hts := atoms_spec (ws := wsX6_isCodeDisjoint) Bd.pre
  have hown : s.vm.findClass RX6 = some m.cls := findClass_of_methodNamed Bd.named
  have hlocks := Bd.notSynchronized
  have hK := hE.1
  have hi6 : ∀ w ∈ wsX60, w ∈ wsX6_isCodeDisjoint := fun w h => List.mem_cons_of_mem _ (List.mem_append_right _ h)
  subst hsz
  have hD := hD0.self (sz := s.heap.size)
  generalize hAe : va_A [(mo, .inr (6, [.ref ms, .ref mr, .ref mk, .int (nI km), .ref mt, .int (nI ln), .int (nI sp), .int (nI rs), .int (nI ws), .ref mv, .ref me])), (ms, .inl (g.2.1, 147, .inl fs)), (mv, .inl (g.2.1, 30, .inl fv))] s.heap.size = A at hD hE ⊢
  have hA : ∀ q : Nat, s.heap.size ≤ q → A q := fun q h => by rw [← hAe]; exact Or.inr h
  have hS : va_S A s.heap s.heap [] := va_S.rf
  have hl := lv_entry ([.ref mo]) (n := 3) (Nat.le_of_ble_eq_true rfl)
  rw [lg_entry_eq]
  generalize (lg_sl ([.ref mo]) ++ List.replicate (3 - (lg_sl ([.ref mo])).length) Slot.unset).toArray = ls at hl ⊢
  have hl : lv_has ls 3 [(0, .ref mo)] := hl
  refine lv_iconst (v := 1) hx hb dX6_isCodeDisjoint_0 (by decide) ?_
  refine lv_istore_n (lv' := [(1, .int 1), (0, .ref mo)]) hx hb dX6_isCodeDisjoint_1 rfl hl (by decide) rfl (fun ls hl => ?_)
  refine lv_iconst (v := 0) hx hb dX6_isCodeDisjoint_2 (by decide) ?_
  refine lv_istore_n (lv' := [(2, .int 0), (1, .int 1), (0, .ref mo)]) hx hb dX6_isCodeDisjoint_3 rfl hl (by decide) rfl (fun ls hl => ?_)
  have loop4 : ∀ (fuel : Nat) (i : Nat) (b : Bool) (gv : Nat → Int32), (2 ^ n - i) < fuel → (i ≤ 2 ^ n) → ((b = true → (∀ w, w < i → ic cd o wt (oB n ty pa pb vo (-1) w) = lb nm w)) ∧ ((∀ w, w < i → ic cd o wt (oB n ty pa pb vo (-1) w) = lb nm w) → b = true)) → ∀ (H : Heap) (locs : List Loc), va_P D vwCl [(mo, .inr (6, [.ref ms, .ref mr, .ref mk, .int (nI km), .ref mt, .int (nI ln), .int (nI sp), .int (nI rs), .int (nI ws), .ref mv, .ref me])), (ms, .inl (g.2.1, 147, .inl fs)), (mv, .inl (g.2.1, 30, .inl gv))] H → va_D A [(mo, .inr (6, [.ref ms, .ref mr, .ref mk, .int (nI km), .ref mt, .int (nI ln), .int (nI sp), .int (nI rs), .int (nI ws), .ref mv, .ref me])), (ms, .inl (g.2.1, 147, .inl fs)), (mv, .inl (g.2.1, 30, .inl gv))] → va_S A s.heap H locs → ∀ ls : Array Slot, lv_has ls 3 [(2, .int (nI i)), (1, .int (bI b)), (0, .ref mo)] → W p l e (headSpec wsX6_isCodeDisjoint ({ frames := 3, cells := 0, slots := 0, locals := 69 })).room s m ([.ref mo] : List Value).toArray below meth c H locs 0 0 (MQ below (va_Qi (S := Nat → Int32) (fun r _ => ((∀ w, w < 2 ^ n → ic cd o wt (oB n ty pa pb vo (-1) w) = lb nm w) ∧ r = 1) ∨ (¬ (∀ w, w < 2 ^ n → ic cd o wt (oB n ty pa pb vo (-1) w) = lb nm w) ∧ r = 0)) (fun u => hk_Out D A (match u with | f' => [(mo, .inr (6, [.ref ms, .ref mr, .ref mk, .int (nI km), .ref mt, .int (nI ln), .int (nI sp), .int (nI rs), .int (nI ws), .ref mv, .ref me])), (ms, .inl (g.2.1, 147, .inl fs)), (mv, .inl (g.2.1, 30, .inl f'))])) A) ([.ref mo] : List Value).toArray s 0 0 A) (F0 m 4 ls []) := by
    intro fuel
    induction fuel with
    | zero => intro i b gv hm; exact absurd hm (Nat.not_lt_zero _)
    | succ fuel ih_4 =>
      intro i b gv hm_4 hi hb2 H locs hP hD hS ls hl
      refine lv_iload_n hx hb dX6_isCodeDisjoint_4 rfl (lv_at hl 0 rfl) ?_
      refine lv_aload_n hx hb dX6_isCodeDisjoint_5 rfl (lv_at hl 2 rfl) ?_
      refine hk_csi (va_runV (As := []) (rest := [.int (nI i)]) ⟨hx, hb, hml, hown, hts⟩ (c6_many l D g ti mo ms mr mk mt mv me fs km ln sp rs ws n N o cd wt ty pa pb vo nm hC hM) (cwV 0 hts gX6_isCodeDisjoint_X6_many rfl rfl rfl (by decide +kernel) ⟨Nat.le_of_ble_eq_true rfl, Nat.le_of_ble_eq_true rfl⟩) (hk_roV hE hP hS 6 rfl rfl [0, 1] rfl rfl) rfl rfl hl.1 rfl (lv_room (Nat.le_of_ble_eq_true rfl)) dX6_isCodeDisjoint_6 ⟨Nat.zero_le _, Nat.zero_le _⟩) (fun r_1 hr_2 => ?_)
      subst hr_2
      refine lv_icmp_ge (tgt := 59) hx hb dX6_isCodeDisjoint_9 (by decide) (fun c_3 => ?_) (fun c_3 => ?_)
      · have c_3h : nI (2 ^ n) ≤ nI i := c_3
        refine lv_iload_n hx hb dX6_isCodeDisjoint_59 rfl (lv_at hl 1 rfl) ?_
        refine lv_if_eq (tgt := 67) hx hb dX6_isCodeDisjoint_60 (by decide) (fun c_4 => ?_) (fun c_4 => ?_)
        · have c_4h : bI b = (0 : Int32) := c_4
          refine lv_iconst (v := 0) hx hb dX6_isCodeDisjoint_67 (by decide) ?_
          have hP9 := hP.sub (ws' := [(mo, .inr (6, [.ref ms, .ref mr, .ref mk, .int (nI km), .ref mt, .int (nI ln), .int (nI sp), .int (nI rs), .int (nI ws), .ref mv, .ref me])), (ms, .inl (g.2.1, 147, .inl fs)), (mv, .inl (g.2.1, 30, .inl gv))]) [0, 1, 2] rfl
          have hD9 := hD.sub (ws' := [(mo, .inr (6, [.ref ms, .ref mr, .ref mk, .int (nI km), .ref mt, .int (nI ln), .int (nI sp), .int (nI rs), .int (nI ws), .ref mv, .ref me])), (ms, .inl (g.2.1, 147, .inl fs)), (mv, .inl (g.2.1, 30, .inl gv))]) [0, 1, 2] (by decide) rfl
          exact W.iret (v := 0) hx hb hr (fun tt ht hW => ⟨⟨_, gv, rfl, Or.inr ⟨fun q9 => absurd (hb2.2 ((show i = 2 ^ n by have := (hk_ge (2 ^ n) c_3 (hi := by have := pw_le hC.2.1; omega) (hn := by have := hC.2.1; exact Nat.lt_of_le_of_lt (Nat.pow_le_pow_right (by decide) this) (by decide : 2 ^ 6 < 2 ^ 31))); omega) ▸ q9)) (by rw [bI_0.mp c_4]; decide), rfl⟩, by rw [ht]; exact hP9, hD9⟩, hS.F ht⟩) hS.2.2 dX6_isCodeDisjoint_68
        · have c_4h : ¬ bI b = (0 : Int32) := c_4
          refine lv_iconst (v := 1) hx hb dX6_isCodeDisjoint_63 (by decide) ?_
          refine lv_goto (tgt := 68) hx hb dX6_isCodeDisjoint_64 (by decide) ?_
          have hP9 := hP.sub (ws' := [(mo, .inr (6, [.ref ms, .ref mr, .ref mk, .int (nI km), .ref mt, .int (nI ln), .int (nI sp), .int (nI rs), .int (nI ws), .ref mv, .ref me])), (ms, .inl (g.2.1, 147, .inl fs)), (mv, .inl (g.2.1, 30, .inl gv))]) [0, 1, 2] rfl
          have hD9 := hD.sub (ws' := [(mo, .inr (6, [.ref ms, .ref mr, .ref mk, .int (nI km), .ref mt, .int (nI ln), .int (nI sp), .int (nI rs), .int (nI ws), .ref mv, .ref me])), (ms, .inl (g.2.1, 147, .inl fs)), (mv, .inl (g.2.1, 30, .inl gv))]) [0, 1, 2] (by decide) rfl
          exact W.iret (v := 1) hx hb hr (fun tt ht hW => ⟨⟨_, gv, rfl, Or.inl ⟨(show i = 2 ^ n by have := (hk_ge (2 ^ n) c_3 (hi := by have := pw_le hC.2.1; omega) (hn := by have := hC.2.1; exact Nat.lt_of_le_of_lt (Nat.pow_le_pow_right (by decide) this) (by decide : 2 ^ 6 < 2 ^ 31))); omega) ▸ hb2.1 (bI_n0 c_4), rfl⟩, by rw [ht]; exact hP9, hD9⟩, hS.F ht⟩) hS.2.2 dX6_isCodeDisjoint_68
      · have c_3h : ¬ nI (2 ^ n) ≤ nI i := c_3
        refine lv_iload_n hx hb dX6_isCodeDisjoint_12 rfl (lv_at hl 1 rfl) ?_
        refine lv_if_eq (tgt := 51) hx hb dX6_isCodeDisjoint_13 (by decide) (fun c_5 => ?_) (fun c_5 => ?_)
        · have c_5h : bI b = (0 : Int32) := c_5
          refine lv_iconst (v := 0) hx hb dX6_isCodeDisjoint_51 (by decide) ?_
          refine lv_istore_n (lv' := [(1, .int 0), (2, .int (nI i)), (0, .ref mo)]) hx hb dX6_isCodeDisjoint_52 rfl hl (by decide) rfl (fun ls hl => ?_)
          refine lv_iinc (v := (nI (i + 1))) (lv' := [(2, .int (nI (i + 1))), (1, .int 0), (0, .ref mo)]) hx hb dX6_isCodeDisjoint_53 hl (k := 1) rfl (nI_1 i) (by decide) rfl (fun ls hl => ?_)
          refine lv_goto (tgt := 4) hx hb dX6_isCodeDisjoint_56 (by decide) ?_
          have hlt : i < 2 ^ n := (hk_nge (2 ^ n) c_3 (hi := by have := pw_le hC.2.1; omega) (hn := by have := hC.2.1; exact Nat.lt_of_le_of_lt (Nat.pow_le_pow_right (by decide) this) (by decide : 2 ^ 6 < 2 ^ 31)))
          exact ih_4 (i + 1) false gv (by omega) (by omega) (⟨fun q => (by cases q), fun q => absurd (hb2.2 (fun w hw => q w (by omega))) (by rw [bI_0.mp c_5]; decide)⟩) _ _ hP hD hS _ (lv_sub hl [0, 1, 2] rfl)
        · have c_5h : ¬ bI b = (0 : Int32) := c_5
          refine lv_aload_n hx hb dX6_isCodeDisjoint_16 rfl (lv_at hl 2 rfl) ?_
          refine lv_aload_n hx hb dX6_isCodeDisjoint_17 rfl (lv_at hl 2 rfl) ?_
          refine lv_iload_n hx hb dX6_isCodeDisjoint_18 rfl (lv_at hl 0 rfl) ?_
          refine lv_iconst (v := (-1)) hx hb dX6_isCodeDisjoint_19 (by decide) ?_
          refine hk_cmi (wr := []) (va_runV (As := [.int (nI i), .int (-1)]) (rest := [.ref mo]) ⟨hx, hb, hml, hown, hts⟩ (c6_told l D g ti _ mo ms mr mk mt mv me fs km ln sp rs ws gv n N o cd wt ty pa pb vo nm i (-1) hC hM (pw_64 hC.2.1 (hk_nge (2 ^ n) c_3 (hi := by have := pw_le hC.2.1; omega) (hn := by have := hC.2.1; exact Nat.lt_of_le_of_lt (Nat.pow_le_pow_right (by decide) this) (by decide : 2 ^ 6 < 2 ^ 31)))) (Or.inl rfl)) (cwV 2 hts gX6_isCodeDisjoint_X6_told rfl rfl rfl (by decide +kernel) ⟨Nat.le_of_ble_eq_true rfl, Nat.le_of_ble_eq_true rfl⟩) (hk_inV hE hP hD hS hA 6 rfl rfl [0, 1, 2] (by decide) rfl rfl) rfl rfl hl.1 rfl (lv_room (Nat.le_of_ble_eq_true rfl)) dX6_isCodeDisjoint_20 ⟨Nat.zero_le _, Nat.zero_le _⟩) hP hD hS hA [0, 1, 2] [] rfl rfl (by decide) (by decide) (fun r_6 tv H locs hr_7 hP hD hS => ?_)
          try dsimp only at hr_7
          have hP : va_P D vwCl [(mo, .inr (6, [.ref ms, .ref mr, .ref mk, .int (nI km), .ref mt, .int (nI ln), .int (nI sp), .int (nI rs), .int (nI ws), .ref mv, .ref me])), (ms, .inl (g.2.1, 147, .inl fs)), (mv, .inl (g.2.1, 30, .inl tv))] H := hP
          have hD : va_D A [(mo, .inr (6, [.ref ms, .ref mr, .ref mk, .int (nI km), .ref mt, .int (nI ln), .int (nI sp), .int (nI rs), .int (nI ws), .ref mv, .ref me])), (ms, .inl (g.2.1, 147, .inl fs)), (mv, .inl (g.2.1, 30, .inl tv))] := hD
          refine hk_ti (nI (wd (oB n ty pa pb vo (-1) i) o)) hr_7 ?_
          refine hk_csi (va_runV (As := [.int (nI (wd (oB n ty pa pb vo (-1) i) o))]) (rest := []) ⟨hx, hb, hml, hown, hts⟩ (c6_isCoded l D g ti mo ms mr mk mt mv me fs km ln sp rs ws n N o cd wt ty pa pb vo nm (wd (oB n ty pa pb vo (-1) i) o) hC hM (wd_lt _ o)) (cwV 1 hts gX6_isCodeDisjoint_X6_isCoded rfl rfl rfl (by decide +kernel) ⟨Nat.le_of_ble_eq_true rfl, Nat.le_of_ble_eq_true rfl⟩) (hk_roV hE hP hS 6 rfl rfl [0, 1] rfl rfl) rfl rfl hl.1 rfl (lv_room (Nat.le_of_ble_eq_true rfl)) dX6_isCodeDisjoint_23 ⟨Nat.zero_le _, Nat.zero_le _⟩) (fun r_8 hr_9 => ?_)
          subst hr_9
          refine hk_ti (bI (ic cd o wt (oB n ty pa pb vo (-1) i))) (by rw [ic_wd]) ?_
          refine lv_aload_n hx hb dX6_isCodeDisjoint_26 rfl (lv_at hl 2 rfl) ?_
          refine va_get (D := D) (ci := 6) (v := .ref ms) (C := RX6) (T := TX6) (N := 11) hx hb hts hi6 hown hK hP 0 rfl rfl 0 (by decide) (hts (.fieldLink RX6 7 "SelfCheckingCircuitModel" "s" "[I") (by decide +kernel)) (fun _ h9 => h9) rfl dX6_isCodeDisjoint_27 ?_
          refine lv_bipush (v := 83) hx hb dX6_isCodeDisjoint_30 (by decide) ?_
          refine lv_iload_n hx hb dX6_isCodeDisjoint_32 rfl (lv_at hl 0 rfl) ?_
          refine lv_iadd hx hb dX6_isCodeDisjoint_33 ?_
          refine hk_ti (nI (83 + i)) (nI_add 83 i) ?_
          refine va_iald hx hb hK hP 1 1 rfl rfl (vp_in_nI (N := 147) (by have := (pw_64 hC.2.1 (hk_nge (2 ^ n) c_3 (hi := by have := pw_le hC.2.1; omega) (hn := by have := hC.2.1; exact Nat.lt_of_le_of_lt (Nat.pow_le_pow_right (by decide) this) (by decide : 2 ^ 6 < 2 ^ 31)))); omega) (by decide)) dX6_isCodeDisjoint_34 ?_
          refine hk_ti (fs (83 + i)) (congrArg fs (nI_clamp (by have := (pw_64 hC.2.1 (hk_nge (2 ^ n) c_3 (hi := by have := pw_le hC.2.1; omega) (hn := by have := hC.2.1; exact Nat.lt_of_le_of_lt (Nat.pow_le_pow_right (by decide) this) (by decide : 2 ^ 6 < 2 ^ 31)))); omega))) ?_
          refine hk_ti (bI (lb nm i)) (hM.2.2.2 i ((pw_64 hC.2.1 (hk_nge (2 ^ n) c_3 (hi := by have := pw_le hC.2.1; omega) (hn := by have := hC.2.1; exact Nat.lt_of_le_of_lt (Nat.pow_le_pow_right (by decide) this) (by decide : 2 ^ 6 < 2 ^ 31)))))) ?_
          refine lv_iconst (v := 1) hx hb dX6_isCodeDisjoint_35 (by decide) ?_
          refine lv_icmp_ne (tgt := 43) hx hb dX6_isCodeDisjoint_36 (by decide) (fun c_10 => ?_) (fun c_10 => ?_)
          · have c_10h : ¬ bI (lb nm i) = (1 : Int32) := c_10
            refine lv_iconst (v := 0) hx hb dX6_isCodeDisjoint_43 (by decide) ?_
            refine lv_icmp_ne (tgt := 51) hx hb dX6_isCodeDisjoint_44 (by decide) (fun c_11 => ?_) (fun c_11 => ?_)
            · have c_11h : ¬ bI (ic cd o wt (oB n ty pa pb vo (-1) i)) = (0 : Int32) := c_11
              refine lv_iconst (v := 0) hx hb dX6_isCodeDisjoint_51 (by decide) ?_
              refine lv_istore_n (lv' := [(1, .int 0), (2, .int (nI i)), (0, .ref mo)]) hx hb dX6_isCodeDisjoint_52 rfl hl (by decide) rfl (fun ls hl => ?_)
              refine lv_iinc (v := (nI (i + 1))) (lv' := [(2, .int (nI (i + 1))), (1, .int 0), (0, .ref mo)]) hx hb dX6_isCodeDisjoint_53 hl (k := 1) rfl (nI_1 i) (by decide) rfl (fun ls hl => ?_)
              refine lv_goto (tgt := 4) hx hb dX6_isCodeDisjoint_56 (by decide) ?_
              have hlt : i < 2 ^ n := (hk_nge (2 ^ n) c_3 (hi := by have := pw_le hC.2.1; omega) (hn := by have := hC.2.1; exact Nat.lt_of_le_of_lt (Nat.pow_le_pow_right (by decide) this) (by decide : 2 ^ 6 < 2 ^ 31)))
              exact ih_4 (i + 1) false tv (by omega) (by omega) (⟨fun q => (by cases q), fun q => absurd ((bI_n0 c_11).symm.trans ((q i (by omega)).trans (bI_n1 c_10))) (by decide)⟩) _ _ hP hD hS _ (lv_sub hl [0, 1, 2] rfl)
            · have c_11h : bI (ic cd o wt (oB n ty pa pb vo (-1) i)) = (0 : Int32) := c_11
              refine lv_iconst (v := 1) hx hb dX6_isCodeDisjoint_47 (by decide) ?_
              refine lv_goto (tgt := 52) hx hb dX6_isCodeDisjoint_48 (by decide) ?_
              refine lv_istore_n (lv' := [(1, .int 1), (2, .int (nI i)), (0, .ref mo)]) hx hb dX6_isCodeDisjoint_52 rfl hl (by decide) rfl (fun ls hl => ?_)
              refine lv_iinc (v := (nI (i + 1))) (lv' := [(2, .int (nI (i + 1))), (1, .int 1), (0, .ref mo)]) hx hb dX6_isCodeDisjoint_53 hl (k := 1) rfl (nI_1 i) (by decide) rfl (fun ls hl => ?_)
              refine lv_goto (tgt := 4) hx hb dX6_isCodeDisjoint_56 (by decide) ?_
              have hlt : i < 2 ^ n := (hk_nge (2 ^ n) c_3 (hi := by have := pw_le hC.2.1; omega) (hn := by have := hC.2.1; exact Nat.lt_of_le_of_lt (Nat.pow_le_pow_right (by decide) this) (by decide : 2 ^ 6 < 2 ^ 31)))
              exact ih_4 (i + 1) true tv (by omega) (by omega) (⟨fun _ w hw => (Nat.lt_succ_iff_lt_or_eq.mp hw).elim (hb2.1 (bI_n0 c_5) w) (fun e9 => by rw [e9, bI_0.mp c_11, bI_n1 c_10]), fun _ => rfl⟩) _ _ hP hD hS _ (lv_sub hl [0, 1, 2] rfl)
          · have c_10h : bI (lb nm i) = (1 : Int32) := c_10
            refine lv_iconst (v := 1) hx hb dX6_isCodeDisjoint_39 (by decide) ?_
            refine lv_goto (tgt := 44) hx hb dX6_isCodeDisjoint_40 (by decide) ?_
            refine lv_icmp_ne (tgt := 51) hx hb dX6_isCodeDisjoint_44 (by decide) (fun c_12 => ?_) (fun c_12 => ?_)
            · have c_12h : ¬ bI (ic cd o wt (oB n ty pa pb vo (-1) i)) = (1 : Int32) := c_12
              refine lv_iconst (v := 0) hx hb dX6_isCodeDisjoint_51 (by decide) ?_
              refine lv_istore_n (lv' := [(1, .int 0), (2, .int (nI i)), (0, .ref mo)]) hx hb dX6_isCodeDisjoint_52 rfl hl (by decide) rfl (fun ls hl => ?_)
              refine lv_iinc (v := (nI (i + 1))) (lv' := [(2, .int (nI (i + 1))), (1, .int 0), (0, .ref mo)]) hx hb dX6_isCodeDisjoint_53 hl (k := 1) rfl (nI_1 i) (by decide) rfl (fun ls hl => ?_)
              refine lv_goto (tgt := 4) hx hb dX6_isCodeDisjoint_56 (by decide) ?_
              have hlt : i < 2 ^ n := (hk_nge (2 ^ n) c_3 (hi := by have := pw_le hC.2.1; omega) (hn := by have := hC.2.1; exact Nat.lt_of_le_of_lt (Nat.pow_le_pow_right (by decide) this) (by decide : 2 ^ 6 < 2 ^ 31)))
              exact ih_4 (i + 1) false tv (by omega) (by omega) (⟨fun q => (by cases q), fun q => absurd ((bI_n1 c_12).symm.trans ((q i (by omega)).trans (bI_1.mp c_10))) (by decide)⟩) _ _ hP hD hS _ (lv_sub hl [0, 1, 2] rfl)
            · have c_12h : bI (ic cd o wt (oB n ty pa pb vo (-1) i)) = (1 : Int32) := c_12
              refine lv_iconst (v := 1) hx hb dX6_isCodeDisjoint_47 (by decide) ?_
              refine lv_goto (tgt := 52) hx hb dX6_isCodeDisjoint_48 (by decide) ?_
              refine lv_istore_n (lv' := [(1, .int 1), (2, .int (nI i)), (0, .ref mo)]) hx hb dX6_isCodeDisjoint_52 rfl hl (by decide) rfl (fun ls hl => ?_)
              refine lv_iinc (v := (nI (i + 1))) (lv' := [(2, .int (nI (i + 1))), (1, .int 1), (0, .ref mo)]) hx hb dX6_isCodeDisjoint_53 hl (k := 1) rfl (nI_1 i) (by decide) rfl (fun ls hl => ?_)
              refine lv_goto (tgt := 4) hx hb dX6_isCodeDisjoint_56 (by decide) ?_
              have hlt : i < 2 ^ n := (hk_nge (2 ^ n) c_3 (hi := by have := pw_le hC.2.1; omega) (hn := by have := hC.2.1; exact Nat.lt_of_le_of_lt (Nat.pow_le_pow_right (by decide) this) (by decide : 2 ^ 6 < 2 ^ 31)))
              exact ih_4 (i + 1) true tv (by omega) (by omega) (⟨fun _ w hw => (Nat.lt_succ_iff_lt_or_eq.mp hw).elim (hb2.1 (bI_n0 c_5) w) (fun e9 => by rw [e9, bI_1.mp c_12, bI_1.mp c_10]), fun _ => rfl⟩) _ _ hP hD hS _ (lv_sub hl [0, 1, 2] rfl)
  exact loop4 _ 0 true fv (Nat.lt_succ_self _) (Nat.zero_le _) (⟨fun _ _ h => absurd h (Nat.not_lt_zero _), fun _ => rfl⟩) _ _ hP hD hS _ (lv_sub hl [0, 1, 2] rfl)
