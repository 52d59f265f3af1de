theorem ct_z : ct (lb (0 : Int64)) 64 = 0 := by decide
theorem gm_pos {c : Nat → Nat} {m : Nat} {r : Int32} (h : isB c m r) (q : ¬ r < 0) (_ : m ≤ 64) : ∃ w, w < m ∧ r = nI w := by
  rcases h with ⟨w, hw, h1, -, -, rfl⟩ | ⟨-, h⟩
  · exact ⟨w, hw, rfl⟩
  · exact absurd (by rw [h]; decide) q
theorem gm_neg {c : Nat → Nat} {m : Nat} {r : Int32} (h : isB c m r) (q : r < 0) (hm : m ≤ 64) : r = -104 := by
  rcases h with ⟨w, hw, -, -, -, rfl⟩ | ⟨-, h⟩
  · exact absurd q (nI_pos (by omega))
  · exact h
theorem gm_end {ef : Nat → Int64} {m d : Nat} {had : Int64} {r : Int32} (h : isB (cH ef had) m r) (e : r = -104) : GM ef m d had r := by
  cases d with
  | zero => exact h
  | succ d => exact Or.inr ⟨e ▸ h, e⟩
set_option maxHeartbeats 4000000 in
set_option maxRecDepth 100000 in
theorem c6_greedyTest (l : Launch) (D : va_G) (g : hk_G) (ti : Nat) (sz : Nat) (mo : Nat) (ms : Nat) (mr : Nat) (mk : Nat) (mt : Nat) (mv : Nat) (me : Nat) (fs : Nat → Int32) (km : Nat) (ln : Nat) (sp : Nat) (rs : Nat) (ws : Nat) (fv : Nat → Int32) (fe : Nat → Int64) (n : Nat) (N : Nat) (o : Nat) (cd : Nat) (wt : Nat) (ty : Nat → Nat) (pa : Nat → Nat) (pb : Nat → Nat) (vo : Nat → Nat) (nm : Int64) (ix : Nat) (hC : Cok n N o cd wt) (hM : MR n N o cd wt ty pa pb vo nm fs) (hix : ix < 2 ^ 31) : Met l yX6_greedyTest wsX6_greedyTest ({ frames := 4, cells := 0, slots := 0, locals := 91 }) (va_Pc [.ref mo, .int (nI ix)] (hk_In D g ti [(mo, .inr (6, [.ref ms, .ref mr, .ref mk, .int (nI km), .ref mt, .int (nI ln), .int (nI sp), .int (nI rs), .int (nI ws), .ref mv, .ref me])), (ms, .inl (g.2.1, 147, .inl fs)), (mv, .inl (g.2.1, 30, .inl fv)), (me, .inl (g.2.2.1, 64, .inr (.inl fe)))] sz)) (va_Qi (S := (Nat → Int32) × (Nat → Int64)) (fun r _ => ∃ ge : Nat → Int64, (∀ v, v < 2 ^ n → ∀ y, y < 64 → lb (ge v) y = (decide (y < 2 * N) && exB n o cd wt ty pa pb vo nm (nI y) v)) ∧ GM ge (2 ^ n) ix 0 r) (fun u => hk_Out D (va_A [(mo, .inr (6, [.ref ms, .ref mr, .ref mk, .int (nI km), .ref mt, .int (nI ln), .int (nI sp), .int (nI rs), .int (nI ws), .ref mv, .ref me])), (ms, .inl (g.2.1, 147, .inl fs)), (mv, .inl (g.2.1, 30, .inl fv)), (me, .inl (g.2.2.1, 64, .inr (.inl fe)))] sz) (match u with | (g1, g2) => [(mo, .inr (6, [.ref ms, .ref mr, .ref mk, .int (nI km), .ref mt, .int (nI ln), .int (nI sp), .int (nI rs), .int (nI ws), .ref mv, .ref me])), (ms, .inl (g.2.1, 147, .inl fs)), (mv, .inl (g.2.1, 30, .inl g1)), (me, .inl (g.2.2.1, 64, .inr (.inl g2)))])) (va_A [(mo, .inr (6, [.ref ms, .ref mr, .ref mk, .int (nI km), .ref mt, .int (nI ln), .int (nI sp), .int (nI rs), .int (nI ws), .ref mv, .ref me])), (ms, .inl (g.2.1, 147, .inl fs)), (mv, .inl (g.2.1, 30, .inl fv)), (me, .inl (g.2.2.1, 64, .inr (.inl fe)))] sz)) 0 0 (va_A [(mo, .inr (6, [.ref ms, .ref mr, .ref mk, .int (nI km), .ref mt, .int (nI ln), .int (nI sp), .int (nI rs), .int (nI ws), .ref mv, .ref me])), (ms, .inl (g.2.1, 147, .inl fs)), (mv, .inl (g.2.1, 30, .inl fv)), (me, .inl (g.2.2.1, 64, .inr (.inl fe)))] sz) := by
  refine Met.ofW (cc := cX6_greedyTest) (maxL := 11) (ret := (some .int)) (by decide) rfl ?_
  intro p e s m args below meth c s₁ Bd hml hv
  obtain ⟨rfl, hsz, hP, hD0, hE⟩ := hv
  have hx := Bd.exec
  have hb := Bd.bytes
  have hr := Bd.returns
  have hts := atoms_spec (ws := wsX6_greedyTest) Bd.pre
  have hown : s.vm.findClass RX6 = some m.cls := findClass_of_methodNamed Bd.named
  have hlocks := Bd.notSynchronized
  have hK := hE.1
  have hi6 : ∀ w ∈ wsX60, w ∈ wsX6_greedyTest := fun w h => List.mem_cons_of_mem _ (List.mem_append_right _ h)
  subst hsz
  have hD := hD0.self (sz := s.heap.size)
  generalize hAe : va_A [(mo, .inr (6, [.ref ms, .ref mr, .ref mk, .int (nI km), .ref mt, .int (nI ln), .int (nI sp), .int (nI rs), .int (nI ws), .ref mv, .ref me])), (ms, .inl (g.2.1, 147, .inl fs)), (mv, .inl (g.2.1, 30, .inl fv)), (me, .inl (g.2.2.1, 64, .inr (.inl fe)))] s.heap.size = A at hD hE ⊢
  have hA : ∀ q : Nat, s.heap.size ≤ q → A q := fun q h => by rw [← hAe]; exact Or.inr h
  have hS : va_S A s.heap s.heap [] := va_S.rf
  have hl := lv_entry ([.ref mo, .int (nI ix)]) (n := 11) (Nat.le_of_ble_eq_true rfl)
  rw [lg_entry_eq]
  generalize (lg_sl ([.ref mo, .int (nI ix)]) ++ List.replicate (11 - (lg_sl ([.ref mo, .int (nI ix)])).length) Slot.unset).toArray = ls at hl ⊢
  have hl : lv_has ls 11 [(0, .ref mo), (1, .int (nI ix))] := hl
  refine lv_iload_n hx hb dX6_greedyTest_0 rfl (lv_at hl 1 rfl) ?_
  refine lv_if_ge (tgt := 7) hx hb dX6_greedyTest_1 (by decide) (fun c_1 => ?_) (fun c_1 => ?_)
  · have c_1h : (0 : Int32) ≤ nI ix := c_1
    refine lv_iconst (v := 0) hx hb dX6_greedyTest_7 (by decide) ?_
    refine lv_istore_n (lv' := [(2, .int 0), (0, .ref mo), (1, .int (nI ix))]) hx hb dX6_greedyTest_8 rfl hl (by decide) rfl (fun ls hl => ?_)
    have loop9 : ∀ (fuel : Nat) (i : Nat) (gv : Nat → Int32) (ge : Nat → Int64), (2 ^ n - i) < fuel → (i ≤ 2 ^ n) → (∀ v, v < i → ∀ y, y < 64 → lb (ge v) y = (decide (y < 2 * N) && exB n o cd wt ty pa pb vo nm (nI y) v)) → ∀ (H : Heap) (locs : List Loc), va_P D vwCl [(mo, .inr (6, [.ref ms, .ref mr, .ref mk, .int (nI km), .ref mt, .int (nI ln), .int (nI sp), .int (nI rs), .int (nI ws), .ref mv, .ref me])), (ms, .inl (g.2.1, 147, .inl fs)), (mv, .inl (g.2.1, 30, .inl gv)), (me, .inl (g.2.2.1, 64, .inr (.inl ge)))] H → va_D A [(mo, .inr (6, [.ref ms, .ref mr, .ref mk, .int (nI km), .ref mt, .int (nI ln), .int (nI sp), .int (nI rs), .int (nI ws), .ref mv, .ref me])), (ms, .inl (g.2.1, 147, .inl fs)), (mv, .inl (g.2.1, 30, .inl gv)), (me, .inl (g.2.2.1, 64, .inr (.inl ge)))] → va_S A s.heap H locs → ∀ ls : Array Slot, lv_has ls 11 [(2, .int (nI i)), (0, .ref mo), (1, .int (nI ix))] → W p l e (headSpec wsX6_greedyTest ({ frames := 4, cells := 0, slots := 0, locals := 91 })).room s m ([.ref mo, .int (nI ix)] : List Value).toArray below meth c H locs 0 0 (MQ below (va_Qi (S := (Nat → Int32) × (Nat → Int64)) (fun r _ => ∃ ge : Nat → Int64, (∀ v, v < 2 ^ n → ∀ y, y < 64 → lb (ge v) y = (decide (y < 2 * N) && exB n o cd wt ty pa pb vo nm (nI y) v)) ∧ GM ge (2 ^ n) ix 0 r) (fun u => hk_Out D A (match u with | (g1, g2) => [(mo, .inr (6, [.ref ms, .ref mr, .ref mk, .int (nI km), .ref mt, .int (nI ln), .int (nI sp), .int (nI rs), .int (nI ws), .ref mv, .ref me])), (ms, .inl (g.2.1, 147, .inl fs)), (mv, .inl (g.2.1, 30, .inl g1)), (me, .inl (g.2.2.1, 64, .inr (.inl g2)))])) A) ([.ref mo, .int (nI ix)] : List Value).toArray s 0 0 A) (F0 m 9 ls []) := by
      intro fuel
      induction fuel with
      | zero => intro i gv ge hm; exact absurd hm (Nat.not_lt_zero _)
      | succ fuel ih_9 =>
        intro i gv ge hm_9 hi hE2 H locs hP hD hS ls hl
        refine lv_iload_n hx hb dX6_greedyTest_9 rfl (lv_at hl 0 rfl) ?_
        refine lv_aload_n hx hb dX6_greedyTest_10 rfl (lv_at hl 1 rfl) ?_
        refine hk_csi (va_runV (As := []) (rest := [.int (nI i)]) ⟨hx, hb, hml, hown, hts⟩ (c6_many l D g ti mo ms mr mk mt mv me fs km ln sp rs ws n N o cd wt ty pa pb vo nm hC hM) (cwV 0 hts gX6_greedyTest_X6_many rfl rfl rfl (by decide +kernel) ⟨Nat.le_of_ble_eq_true rfl, Nat.le_of_ble_eq_true rfl⟩) (hk_roV hE hP hS 6 rfl rfl [0, 1] rfl rfl) rfl rfl hl.1 rfl (lv_room (Nat.le_of_ble_eq_true rfl)) dX6_greedyTest_11 ⟨Nat.zero_le _, Nat.zero_le _⟩) (fun r_2 hr_3 => ?_)
        subst hr_3
        refine lv_icmp_ge (tgt := 76) hx hb dX6_greedyTest_14 (by decide) (fun c_4 => ?_) (fun c_4 => ?_)
        · have c_4h : nI (2 ^ n) ≤ nI i := c_4
          refine lv_lconst (v := 0) hx hb dX6_greedyTest_76 (by decide) ?_
          refine lv_lstore_n (lv' := [(2, .long 0), (0, .ref mo), (1, .int (nI ix))]) hx hb dX6_greedyTest_77 rfl hl (by decide) rfl (fun ls hl => ?_)
          refine lv_iconst (v := 0) hx hb dX6_greedyTest_78 (by decide) ?_
          refine lv_istore (lv' := [(4, .int 0), (2, .long 0), (0, .ref mo), (1, .int (nI ix))]) hx hb dX6_greedyTest_79 hl (by decide) rfl (fun ls hl => ?_)
          have loop81 : ∀ (fuel : Nat) (k : Nat) (d : Nat) (had : Int64), d < fuel → (k + d = ix) → (∀ r, GM ge (2 ^ n) d had r → GM ge (2 ^ n) ix 0 r) → ∀ (H : Heap) (locs : List Loc), va_P D vwCl [(mo, .inr (6, [.ref ms, .ref mr, .ref mk, .int (nI km), .ref mt, .int (nI ln), .int (nI sp), .int (nI rs), .int (nI ws), .ref mv, .ref me])), (ms, .inl (g.2.1, 147, .inl fs)), (mv, .inl (g.2.1, 30, .inl gv)), (me, .inl (g.2.2.1, 64, .inr (.inl ge)))] H → va_D A [(mo, .inr (6, [.ref ms, .ref mr, .ref mk, .int (nI km), .ref mt, .int (nI ln), .int (nI sp), .int (nI rs), .int (nI ws), .ref mv, .ref me])), (ms, .inl (g.2.1, 147, .inl fs)), (mv, .inl (g.2.1, 30, .inl gv)), (me, .inl (g.2.2.1, 64, .inr (.inl ge)))] → va_S A s.heap H locs → ∀ ls : Array Slot, lv_has ls 11 [(4, .int (nI k)), (2, .long had), (0, .ref mo), (1, .int (nI ix))] → W p l e (headSpec wsX6_greedyTest ({ frames := 4, cells := 0, slots := 0, locals := 91 })).room s m ([.ref mo, .int (nI ix)] : List Value).toArray below meth c H locs 0 0 (MQ below (va_Qi (S := (Nat → Int32) × (Nat → Int64)) (fun r _ => ∃ ge : Nat → Int64, (∀ v, v < 2 ^ n → ∀ y, y < 64 → lb (ge v) y = (decide (y < 2 * N) && exB n o cd wt ty pa pb vo nm (nI y) v)) ∧ GM ge (2 ^ n) ix 0 r) (fun u => hk_Out D A (match u with | (g1, g2) => [(mo, .inr (6, [.ref ms, .ref mr, .ref mk, .int (nI km), .ref mt, .int (nI ln), .int (nI sp), .int (nI rs), .int (nI ws), .ref mv, .ref me])), (ms, .inl (g.2.1, 147, .inl fs)), (mv, .inl (g.2.1, 30, .inl g1)), (me, .inl (g.2.2.1, 64, .inr (.inl g2)))])) A) ([.ref mo, .int (nI ix)] : List Value).toArray s 0 0 A) (F0 m 81 ls []) := by
            intro fuel
            induction fuel with
            | zero => intro k d had hm; exact absurd hm (Nat.not_lt_zero _)
            | succ fuel ih_81 =>
              intro k d had hm_81 hd hG2 H locs hP hD hS ls hl
              refine lv_iload hx hb dX6_greedyTest_81 (lv_at hl 0 rfl) ?_
              refine lv_iload_n hx hb dX6_greedyTest_83 rfl (lv_at hl 3 rfl) ?_
              refine lv_icmp_gt (tgt := 214) hx hb dX6_greedyTest_84 (by decide) (fun c_5 => ?_) (fun c_5 => ?_)
              · have c_5h : nI ix < nI k := c_5
                exact absurd ((nI_ltI hix (by omega)).mp c_5) (by omega)
              · have c_5h : ¬ nI ix < nI k := c_5
                refine lv_bipush (v := (-104)) hx hb dX6_greedyTest_87 (by decide) ?_
                refine lv_istore (lv' := [(5, .int (-104)), (4, .int (nI k)), (2, .long had), (0, .ref mo), (1, .int (nI ix))]) hx hb dX6_greedyTest_89 hl (by decide) rfl (fun ls hl => ?_)
                refine lv_iconst (v := 0) hx hb dX6_greedyTest_91 (by decide) ?_
                refine lv_istore (lv' := [(6, .int 0), (5, .int (-104)), (4, .int (nI k)), (2, .long had), (0, .ref mo), (1, .int (nI ix))]) hx hb dX6_greedyTest_92 hl (by decide) rfl (fun ls hl => ?_)
                refine lv_iconst (v := 0) hx hb dX6_greedyTest_94 (by decide) ?_
                refine lv_istore (lv' := [(7, .int 0), (6, .int 0), (5, .int (-104)), (4, .int (nI k)), (2, .long had), (0, .ref mo), (1, .int (nI ix))]) hx hb dX6_greedyTest_95 hl (by decide) rfl (fun ls hl => ?_)
                have loop97 : ∀ (fuel : Nat) (v : Nat) (b : Int32) (mx : Nat), (2 ^ n - v) < fuel → (v ≤ 2 ^ n) → (jB (cH ge had) v b mx) → ∀ (H : Heap) (locs : List Loc), va_P D vwCl [(mo, .inr (6, [.ref ms, .ref mr, .ref mk, .int (nI km), .ref mt, .int (nI ln), .int (nI sp), .int (nI rs), .int (nI ws), .ref mv, .ref me])), (ms, .inl (g.2.1, 147, .inl fs)), (mv, .inl (g.2.1, 30, .inl gv)), (me, .inl (g.2.2.1, 64, .inr (.inl ge)))] H → va_D A [(mo, .inr (6, [.ref ms, .ref mr, .ref mk, .int (nI km), .ref mt, .int (nI ln), .int (nI sp), .int (nI rs), .int (nI ws), .ref mv, .ref me])), (ms, .inl (g.2.1, 147, .inl fs)), (mv, .inl (g.2.1, 30, .inl gv)), (me, .inl (g.2.2.1, 64, .inr (.inl ge)))] → va_S A s.heap H locs → ∀ ls : Array Slot, lv_has ls 11 [(7, .int (nI v)), (5, .int b), (6, .int (nI mx)), (4, .int (nI k)), (2, .long had), (0, .ref mo), (1, .int (nI ix))] → W p l e (headSpec wsX6_greedyTest ({ frames := 4, cells := 0, slots := 0, locals := 91 })).room s m ([.ref mo, .int (nI ix)] : List Value).toArray below meth c H locs 0 0 (MQ below (va_Qi (S := (Nat → Int32) × (Nat → Int64)) (fun r _ => ∃ ge : Nat → Int64, (∀ v, v < 2 ^ n → ∀ y, y < 64 → lb (ge v) y = (decide (y < 2 * N) && exB n o cd wt ty pa pb vo nm (nI y) v)) ∧ GM ge (2 ^ n) ix 0 r) (fun u => hk_Out D A (match u with | (g1, g2) => [(mo, .inr (6, [.ref ms, .ref mr, .ref mk, .int (nI km), .ref mt, .int (nI ln), .int (nI sp), .int (nI rs), .int (nI ws), .ref mv, .ref me])), (ms, .inl (g.2.1, 147, .inl fs)), (mv, .inl (g.2.1, 30, .inl g1)), (me, .inl (g.2.2.1, 64, .inr (.inl g2)))])) A) ([.ref mo, .int (nI ix)] : List Value).toArray s 0 0 A) (F0 m 97 ls []) := by
                  intro fuel
                  induction fuel with
                  | zero => intro v b mx hm; exact absurd hm (Nat.not_lt_zero _)
                  | succ fuel ih_97 =>
                    intro v b mx hm_97 hv hj H locs hP hD hS ls hl
                    refine lv_iload hx hb dX6_greedyTest_97 (lv_at hl 0 rfl) ?_
                    refine lv_aload_n hx hb dX6_greedyTest_99 rfl (lv_at hl 5 rfl) ?_
                    refine hk_csi (va_runV (As := []) (rest := [.int (nI v)]) ⟨hx, hb, hml, hown, hts⟩ (c6_many l D g ti mo ms mr mk mt mv me fs km ln sp rs ws n N o cd wt ty pa pb vo nm hC hM) (cwV 0 hts gX6_greedyTest_X6_many rfl rfl rfl (by decide +kernel) ⟨Nat.le_of_ble_eq_true rfl, Nat.le_of_ble_eq_true rfl⟩) (hk_roV hE hP hS 6 rfl rfl [0, 1] rfl rfl) rfl rfl hl.1 rfl (lv_room (Nat.le_of_ble_eq_true rfl)) dX6_greedyTest_100 ⟨Nat.zero_le _, Nat.zero_le _⟩) (fun r_6 hr_7 => ?_)
                    subst hr_7
                    refine lv_icmp_ge (tgt := 184) hx hb dX6_greedyTest_103 (by decide) (fun c_8 => ?_) (fun c_8 => ?_)
                    · have c_8h : nI (2 ^ n) ≤ nI v := c_8
                      have hib : isB (cH ge had) (2 ^ n) b := jB_end ((show v = 2 ^ n by have := hk_ge (2 ^ n) c_8 (hi := by have := pw_le hC.2.1; omega) (hn := by have := hC.2.1; exact Nat.lt_of_le_of_lt (Nat.pow_le_pow_right (by decide) this) (by decide : 2 ^ 6 < 2 ^ 31)); omega) ▸ hj)
                      refine lv_iload hx hb dX6_greedyTest_184 (lv_at hl 1 rfl) ?_
                      refine lv_if_lt (tgt := 195) hx hb dX6_greedyTest_186 (by decide) (fun c_9 => ?_) (fun c_9 => ?_)
                      · have c_9h : b < (0 : Int32) := c_9
                        refine lv_iload hx hb dX6_greedyTest_195 (lv_at hl 1 rfl) ?_
                        have hP9 := hP.sub (ws' := [(mo, .inr (6, [.ref ms, .ref mr, .ref mk, .int (nI km), .ref mt, .int (nI ln), .int (nI sp), .int (nI rs), .int (nI ws), .ref mv, .ref me])), (ms, .inl (g.2.1, 147, .inl fs)), (mv, .inl (g.2.1, 30, .inl gv)), (me, .inl (g.2.2.1, 64, .inr (.inl ge)))]) [0, 1, 2, 3] rfl
                        have hD9 := hD.sub (ws' := [(mo, .inr (6, [.ref ms, .ref mr, .ref mk, .int (nI km), .ref mt, .int (nI ln), .int (nI sp), .int (nI rs), .int (nI ws), .ref mv, .ref me])), (ms, .inl (g.2.1, 147, .inl fs)), (mv, .inl (g.2.1, 30, .inl gv)), (me, .inl (g.2.2.1, 64, .inr (.inl ge)))]) [0, 1, 2, 3] (by decide) rfl
                        exact W.iret (v := b) hx hb hr (fun tt ht hW => ⟨⟨_, (gv, ge), rfl, ⟨ge, (show ∀ v, v < 2 ^ n → ∀ y, y < 64 → lb (ge v) y = (decide (y < 2 * N) && exB n o cd wt ty pa pb vo nm (nI y) v) from (show i = 2 ^ n by have := hk_ge (2 ^ n) c_4 (hi := by have := pw_le hC.2.1; omega) (hn := by have := hC.2.1; exact Nat.lt_of_le_of_lt (Nat.pow_le_pow_right (by decide) this) (by decide : 2 ^ 6 < 2 ^ 31)); omega) ▸ hE2), hG2 _ (gm_end hib (gm_neg hib c_9 (pw_le hC.2.1)))⟩, by rw [ht]; exact hP9, hD9⟩, hS.F ht⟩) hS.2.2 dX6_greedyTest_197
                      · have c_9h : ¬ b < (0 : Int32) := c_9
                        refine lv_iload hx hb dX6_greedyTest_189 (lv_at hl 3 rfl) ?_
                        refine lv_iload_n hx hb dX6_greedyTest_191 rfl (lv_at hl 6 rfl) ?_
                        refine lv_icmp_ne (tgt := 198) hx hb dX6_greedyTest_192 (by decide) (fun c_10 => ?_) (fun c_10 => ?_)
                        · have c_10h : ¬ nI k = nI ix := c_10
                          obtain ⟨wb, hwb, rwb⟩ := gm_pos hib c_9 (pw_le hC.2.1)
                          refine lv_lload_n hx hb dX6_greedyTest_198 rfl (lv_at hl 4 rfl) ?_
                          refine lv_aload_n hx hb dX6_greedyTest_199 rfl (lv_at hl 5 rfl) ?_
                          refine va_get (D := D) (ci := 6) (v := .ref me) (C := RX6) (T := TX6) (N := 11) hx hb hts hi6 hown hK hP 0 rfl rfl 10 (by decide) (hts (.fieldLink RX6 25 "SelfCheckingCircuitModel" "exposed" "[J") (by decide +kernel)) (fun _ h9 => h9) rfl dX6_greedyTest_200 ?_
                          refine lv_iload hx hb dX6_greedyTest_203 (lv_at hl 1 rfl) ?_
                          refine va_lald hx hb hK hP 3 2 rfl rfl (by rw [rwb]; exact vp_in_nI (N := 64) (by have := pw_le hC.2.1; omega) (by decide)) dX6_greedyTest_205 ?_
                          refine hk_tl (ge wb) (congrArg ge (by rw [rwb]; exact nI_clamp (by have := pw_le hC.2.1; omega))) ?_
                          refine lv_lor hx hb dX6_greedyTest_206 ?_
                          refine lv_lstore_n (lv' := [(2, .long (had ||| (ge wb))), (7, .int (nI v)), (5, .int b), (6, .int (nI mx)), (4, .int (nI k)), (0, .ref mo), (1, .int (nI ix))]) hx hb dX6_greedyTest_207 rfl hl (by decide) rfl (fun ls hl => ?_)
                          refine lv_iinc (v := (nI (k + 1))) (lv' := [(4, .int (nI (k + 1))), (2, .long (had ||| (ge wb))), (7, .int (nI v)), (5, .int b), (6, .int (nI mx)), (0, .ref mo), (1, .int (nI ix))]) hx hb dX6_greedyTest_208 hl (k := 4) rfl (nI_1 k) (by decide) rfl (fun ls hl => ?_)
                          refine lv_goto (tgt := 81) hx hb dX6_greedyTest_211 (by decide) ?_
                          have hdx : 1 ≤ d := gr_d hd c_10
                          exact ih_81 (k + 1) (d - 1) (had ||| ge wb) (by omega) (by omega) (fun r hr => hG2 r (by rw [show d = (d - 1) + 1 by omega]; exact Or.inl ⟨wb, hwb, rwb ▸ hib, hr⟩)) _ _ hP hD hS _ (lv_sub hl [0, 1, 5, 6] rfl)
                        · have c_10h : nI k = nI ix := c_10
                          refine lv_iload hx hb dX6_greedyTest_195 (lv_at hl 1 rfl) ?_
                          have hP9 := hP.sub (ws' := [(mo, .inr (6, [.ref ms, .ref mr, .ref mk, .int (nI km), .ref mt, .int (nI ln), .int (nI sp), .int (nI rs), .int (nI ws), .ref mv, .ref me])), (ms, .inl (g.2.1, 147, .inl fs)), (mv, .inl (g.2.1, 30, .inl gv)), (me, .inl (g.2.2.1, 64, .inr (.inl ge)))]) [0, 1, 2, 3] rfl
                          have hD9 := hD.sub (ws' := [(mo, .inr (6, [.ref ms, .ref mr, .ref mk, .int (nI km), .ref mt, .int (nI ln), .int (nI sp), .int (nI rs), .int (nI ws), .ref mv, .ref me])), (ms, .inl (g.2.1, 147, .inl fs)), (mv, .inl (g.2.1, 30, .inl gv)), (me, .inl (g.2.2.1, 64, .inr (.inl ge)))]) [0, 1, 2, 3] (by decide) rfl
                          exact W.iret (v := b) hx hb hr (fun tt ht hW => ⟨⟨_, (gv, ge), rfl, ⟨ge, (show ∀ v, v < 2 ^ n → ∀ y, y < 64 → lb (ge v) y = (decide (y < 2 * N) && exB n o cd wt ty pa pb vo nm (nI y) v) from (show i = 2 ^ n by have := hk_ge (2 ^ n) c_4 (hi := by have := pw_le hC.2.1; omega) (hn := by have := hC.2.1; exact Nat.lt_of_le_of_lt (Nat.pow_le_pow_right (by decide) this) (by decide : 2 ^ 6 < 2 ^ 31)); omega) ▸ hE2), hG2 _ (by rw [show d = 0 by have := nI_inj c_10 (by omega) hix; omega]; exact hib)⟩, by rw [ht]; exact hP9, hD9⟩, hS.F ht⟩) hS.2.2 dX6_greedyTest_197
                    · have c_8h : ¬ nI (2 ^ n) ≤ nI v := c_8
                      have hlv : v < 2 ^ n := (hk_nge (2 ^ n) c_8 (hi := by have := pw_le hC.2.1; omega) (hn := by have := hC.2.1; exact Nat.lt_of_le_of_lt (Nat.pow_le_pow_right (by decide) this) (by decide : 2 ^ 6 < 2 ^ 31)))
                      refine lv_iconst (v := 0) hx hb dX6_greedyTest_106 (by decide) ?_
                      refine lv_istore (lv' := [(8, .int 0), (7, .int (nI v)), (5, .int b), (6, .int (nI mx)), (4, .int (nI k)), (2, .long had), (0, .ref mo), (1, .int (nI ix))]) hx hb dX6_greedyTest_107 hl (by decide) rfl (fun ls hl => ?_)
                      refine lv_aload_n hx hb dX6_greedyTest_109 rfl (lv_at hl 6 rfl) ?_
                      refine va_get (D := D) (ci := 6) (v := .ref me) (C := RX6) (T := TX6) (N := 11) hx hb hts hi6 hown hK hP 0 rfl rfl 10 (by decide) (hts (.fieldLink RX6 25 "SelfCheckingCircuitModel" "exposed" "[J") (by decide +kernel)) (fun _ h9 => h9) rfl dX6_greedyTest_110 ?_
                      refine lv_iload hx hb dX6_greedyTest_113 (lv_at hl 1 rfl) ?_
                      refine va_lald hx hb hK hP 3 2 rfl rfl (vp_in_nI (N := 64) (by have := pw_le hC.2.1; have := hlv; omega) (by decide)) dX6_greedyTest_115 ?_
                      refine hk_tl (ge v) (congrArg ge (nI_clamp (by have := pw_le hC.2.1; have := hlv; omega))) ?_
                      refine lv_lload_n hx hb dX6_greedyTest_116 rfl (lv_at hl 5 rfl) ?_
                      refine lv_ldc2 (own := RX6) (v := (-1)) hx hb hown (hts (.constantLong RX6 150 (-1)) (by decide +kernel)) dX6_greedyTest_117 ?_
                      refine lv_lxor hx hb dX6_greedyTest_120 ?_
                      refine lv_land hx hb dX6_greedyTest_121 ?_
                      refine lv_lstore (lv' := [(9, .long ((ge v) &&& (had ^^^ (-1 : Int64)))), (8, .int 0), (7, .int (nI v)), (5, .int b), (6, .int (nI mx)), (4, .int (nI k)), (2, .long had), (0, .ref mo), (1, .int (nI ix))]) hx hb dX6_greedyTest_122 hl (by decide) rfl (fun ls hl => ?_)
                      have loop124 : ∀ (fuel : Nat) (lf : Int64) (c0 : Nat), (ct (lb lf) 64) < fuel → (c0 + ct (lb lf) 64 = cH ge had v) → ∀ (H : Heap) (locs : List Loc), va_P D vwCl [(mo, .inr (6, [.ref ms, .ref mr, .ref mk, .int (nI km), .ref mt, .int (nI ln), .int (nI sp), .int (nI rs), .int (nI ws), .ref mv, .ref me])), (ms, .inl (g.2.1, 147, .inl fs)), (mv, .inl (g.2.1, 30, .inl gv)), (me, .inl (g.2.2.1, 64, .inr (.inl ge)))] H → va_D A [(mo, .inr (6, [.ref ms, .ref mr, .ref mk, .int (nI km), .ref mt, .int (nI ln), .int (nI sp), .int (nI rs), .int (nI ws), .ref mv, .ref me])), (ms, .inl (g.2.1, 147, .inl fs)), (mv, .inl (g.2.1, 30, .inl gv)), (me, .inl (g.2.2.1, 64, .inr (.inl ge)))] → va_S A s.heap H locs → ∀ ls : Array Slot, lv_has ls 11 [(9, .long lf), (8, .int (nI c0)), (7, .int (nI v)), (5, .int b), (6, .int (nI mx)), (4, .int (nI k)), (2, .long had), (0, .ref mo), (1, .int (nI ix))] → W p l e (headSpec wsX6_greedyTest ({ frames := 4, cells := 0, slots := 0, locals := 91 })).room s m ([.ref mo, .int (nI ix)] : List Value).toArray below meth c H locs 0 0 (MQ below (va_Qi (S := (Nat → Int32) × (Nat → Int64)) (fun r _ => ∃ ge : Nat → Int64, (∀ v, v < 2 ^ n → ∀ y, y < 64 → lb (ge v) y = (decide (y < 2 * N) && exB n o cd wt ty pa pb vo nm (nI y) v)) ∧ GM ge (2 ^ n) ix 0 r) (fun u => hk_Out D A (match u with | (g1, g2) => [(mo, .inr (6, [.ref ms, .ref mr, .ref mk, .int (nI km), .ref mt, .int (nI ln), .int (nI sp), .int (nI rs), .int (nI ws), .ref mv, .ref me])), (ms, .inl (g.2.1, 147, .inl fs)), (mv, .inl (g.2.1, 30, .inl g1)), (me, .inl (g.2.2.1, 64, .inr (.inl g2)))])) A) ([.ref mo, .int (nI ix)] : List Value).toArray s 0 0 A) (F0 m 124 ls []) := by
                        intro fuel
                        induction fuel with
                        | zero => intro lf c0 hm; exact absurd hm (Nat.not_lt_zero _)
                        | succ fuel ih_124 =>
                          intro lf c0 hm_124 hc0 H locs hP hD hS ls hl
                          refine lv_lload hx hb dX6_greedyTest_124 (lv_at hl 0 rfl) ?_
                          refine lv_lconst (v := 0) hx hb dX6_greedyTest_126 (by decide) ?_
                          refine W.lcmp hx hb dX6_greedyTest_127 ?_
                          refine lv_if_eq (tgt := 146) hx hb dX6_greedyTest_128 (by decide) (fun c_11 => ?_) (fun c_11 => ?_)
                          · have c_11h : (lg_cmp lf (0 : Int64)) = (0 : Int32) := c_11
                            have hcc : c0 = cH ge had v := by rw [(lg_0 _ _).mp c_11] at hc0; have h0 := ct_z; omega
                            refine lv_iload hx hb dX6_greedyTest_146 (lv_at hl 1 rfl) ?_
                            refine lv_iload hx hb dX6_greedyTest_148 (lv_at hl 4 rfl) ?_
                            refine lv_icmp_le (tgt := 158) hx hb dX6_greedyTest_150 (by decide) (fun c_12 => ?_) (fun c_12 => ?_)
                            · have c_12h : nI c0 ≤ nI mx := c_12
                              refine lv_iload hx hb dX6_greedyTest_158 (lv_at hl 3 rfl) ?_
                              refine lv_istore (lv' := [(5, .int b), (9, .long lf), (8, .int (nI c0)), (7, .int (nI v)), (6, .int (nI mx)), (4, .int (nI k)), (2, .long had), (0, .ref mo), (1, .int (nI ix))]) hx hb dX6_greedyTest_160 hl (by decide) rfl (fun ls hl => ?_)
                              refine lv_iload hx hb dX6_greedyTest_162 (lv_at hl 2 rfl) ?_
                              refine lv_iload hx hb dX6_greedyTest_164 (lv_at hl 4 rfl) ?_
                              refine lv_icmp_le (tgt := 174) hx hb dX6_greedyTest_166 (by decide) (fun c_13 => ?_) (fun c_13 => ?_)
                              · have c_13h : nI c0 ≤ nI mx := c_13
                                refine lv_iload hx hb dX6_greedyTest_174 (lv_at hl 4 rfl) ?_
                                refine lv_istore (lv' := [(6, .int (nI mx)), (5, .int b), (9, .long lf), (8, .int (nI c0)), (7, .int (nI v)), (4, .int (nI k)), (2, .long had), (0, .ref mo), (1, .int (nI ix))]) hx hb dX6_greedyTest_176 hl (by decide) rfl (fun ls hl => ?_)
                                refine lv_iinc (v := (nI (v + 1))) (lv' := [(7, .int (nI (v + 1))), (6, .int (nI mx)), (5, .int b), (9, .long lf), (8, .int (nI c0)), (4, .int (nI k)), (2, .long had), (0, .ref mo), (1, .int (nI ix))]) hx hb dX6_greedyTest_178 hl (k := 4) rfl (nI_1 v) (by decide) rfl (fun ls hl => ?_)
                                refine lv_goto (tgt := 97) hx hb dX6_greedyTest_181 (by decide) ?_
                                have hlt : v < 2 ^ n := hlv
                                exact ih_97 (v + 1) b mx (by omega) (by omega) (jB_st hj (hcc ▸ hk_ge2 c_12 (hcc ▸ cH_le ge had v) (jB_le hj (cH_le ge had)))) _ _ hP hD hS _ (lv_sub hl [0, 2, 1, 5, 6, 7, 8] rfl)
                              · have c_13h : ¬ nI c0 ≤ nI mx := c_13
                                refine lv_iload hx hb dX6_greedyTest_169 (lv_at hl 2 rfl) ?_
                                refine lv_goto (tgt := 176) hx hb dX6_greedyTest_171 (by decide) ?_
                                refine lv_istore (lv' := [(6, .int (nI c0)), (5, .int b), (9, .long lf), (8, .int (nI c0)), (7, .int (nI v)), (4, .int (nI k)), (2, .long had), (0, .ref mo), (1, .int (nI ix))]) hx hb dX6_greedyTest_176 hl (by decide) rfl (fun ls hl => ?_)
                                refine lv_iinc (v := (nI (v + 1))) (lv' := [(7, .int (nI (v + 1))), (6, .int (nI c0)), (5, .int b), (9, .long lf), (8, .int (nI c0)), (4, .int (nI k)), (2, .long had), (0, .ref mo), (1, .int (nI ix))]) hx hb dX6_greedyTest_178 hl (k := 4) rfl (nI_1 v) (by decide) rfl (fun ls hl => ?_)
                                refine lv_goto (tgt := 97) hx hb dX6_greedyTest_181 (by decide) ?_
                                have hlt : v < 2 ^ n := hlv
                                exact absurd c_12 c_13
                            · have c_12h : ¬ nI c0 ≤ nI mx := c_12
                              refine lv_iload hx hb dX6_greedyTest_153 (lv_at hl 2 rfl) ?_
                              refine lv_goto (tgt := 160) hx hb dX6_greedyTest_155 (by decide) ?_
                              refine lv_istore (lv' := [(5, .int (nI v)), (9, .long lf), (8, .int (nI c0)), (7, .int (nI v)), (6, .int (nI mx)), (4, .int (nI k)), (2, .long had), (0, .ref mo), (1, .int (nI ix))]) hx hb dX6_greedyTest_160 hl (by decide) rfl (fun ls hl => ?_)
                              refine lv_iload hx hb dX6_greedyTest_162 (lv_at hl 2 rfl) ?_
                              refine lv_iload hx hb dX6_greedyTest_164 (lv_at hl 4 rfl) ?_
                              refine lv_icmp_le (tgt := 174) hx hb dX6_greedyTest_166 (by decide) (fun c_14 => ?_) (fun c_14 => ?_)
                              · have c_14h : nI c0 ≤ nI mx := c_14
                                refine lv_iload hx hb dX6_greedyTest_174 (lv_at hl 4 rfl) ?_
                                refine lv_istore (lv' := [(6, .int (nI mx)), (5, .int (nI v)), (9, .long lf), (8, .int (nI c0)), (7, .int (nI v)), (4, .int (nI k)), (2, .long had), (0, .ref mo), (1, .int (nI ix))]) hx hb dX6_greedyTest_176 hl (by decide) rfl (fun ls hl => ?_)
                                refine lv_iinc (v := (nI (v + 1))) (lv' := [(7, .int (nI (v + 1))), (6, .int (nI mx)), (5, .int (nI v)), (9, .long lf), (8, .int (nI c0)), (4, .int (nI k)), (2, .long had), (0, .ref mo), (1, .int (nI ix))]) hx hb dX6_greedyTest_178 hl (k := 4) rfl (nI_1 v) (by decide) rfl (fun ls hl => ?_)
                                refine lv_goto (tgt := 97) hx hb dX6_greedyTest_181 (by decide) ?_
                                have hlt : v < 2 ^ n := hlv
                                exact absurd c_14 c_12
                              · have c_14h : ¬ nI c0 ≤ nI mx := c_14
                                refine lv_iload hx hb dX6_greedyTest_169 (lv_at hl 2 rfl) ?_
                                refine lv_goto (tgt := 176) hx hb dX6_greedyTest_171 (by decide) ?_
                                refine lv_istore (lv' := [(6, .int (nI c0)), (5, .int (nI v)), (9, .long lf), (8, .int (nI c0)), (7, .int (nI v)), (4, .int (nI k)), (2, .long had), (0, .ref mo), (1, .int (nI ix))]) hx hb dX6_greedyTest_176 hl (by decide) rfl (fun ls hl => ?_)
                                refine lv_iinc (v := (nI (v + 1))) (lv' := [(7, .int (nI (v + 1))), (6, .int (nI c0)), (5, .int (nI v)), (9, .long lf), (8, .int (nI c0)), (4, .int (nI k)), (2, .long had), (0, .ref mo), (1, .int (nI ix))]) hx hb dX6_greedyTest_178 hl (k := 4) rfl (nI_1 v) (by decide) rfl (fun ls hl => ?_)
                                refine lv_goto (tgt := 97) hx hb dX6_greedyTest_181 (by decide) ?_
                                have hlt : v < 2 ^ n := hlv
                                exact ih_97 (v + 1) (nI v) c0 (by omega) (by omega) (hcc ▸ jB_up hj (hcc ▸ hk_lt2 c_12 (hcc ▸ cH_le ge had v) (jB_le hj (cH_le ge had)))) _ _ hP hD hS _ (lv_sub hl [0, 2, 1, 5, 6, 7, 8] rfl)
                          · have c_11h : ¬ (lg_cmp lf (0 : Int64)) = (0 : Int32) := c_11
                            refine lv_iinc (v := (nI (c0 + 1))) (lv' := [(8, .int (nI (c0 + 1))), (9, .long lf), (7, .int (nI v)), (5, .int b), (6, .int (nI mx)), (4, .int (nI k)), (2, .long had), (0, .ref mo), (1, .int (nI ix))]) hx hb dX6_greedyTest_131 hl (k := 1) rfl (nI_1 c0) (by decide) rfl (fun ls hl => ?_)
                            refine lv_lload hx hb dX6_greedyTest_134 (lv_at hl 1 rfl) ?_
                            refine lv_lload hx hb dX6_greedyTest_136 (lv_at hl 1 rfl) ?_
                            refine lv_lconst (v := 1) hx hb dX6_greedyTest_138 (by decide) ?_
                            refine lv_lsub hx hb dX6_greedyTest_139 ?_
                            refine lv_land hx hb dX6_greedyTest_140 ?_
                            refine lv_lstore (lv' := [(9, .long (lf &&& (lf - (1 : Int64)))), (8, .int (nI (c0 + 1))), (7, .int (nI v)), (5, .int b), (6, .int (nI mx)), (4, .int (nI k)), (2, .long had), (0, .ref mo), (1, .int (nI ix))]) hx hb dX6_greedyTest_141 hl (by decide) rfl (fun ls hl => ?_)
                            refine lv_goto (tgt := 124) hx hb dX6_greedyTest_143 (by decide) ?_
                            have hz : ¬ lf = 0 := fun q => c_11 ((lg_0 _ _).mpr q)
                            exact ih_124 (lf &&& (lf - 1)) (c0 + 1) (by have := lo_64 hz; omega) (by have := lo_64 hz; omega) _ _ hP hD hS _ (lv_sub hl [0, 1, 2, 3, 4, 5, 6, 7, 8] rfl)
                      exact loop124 _ (ge v &&& (had ^^^ (-1))) 0 (Nat.lt_succ_self _) (Nat.zero_add _) _ _ hP hD hS _ (lv_sub hl [0, 1, 2, 3, 4, 5, 6, 7, 8] rfl)
                exact loop97 _ 0 (-104) 0 (Nat.lt_succ_self _) (Nat.zero_le _) (jB_0 _) _ _ hP hD hS _ (lv_sub hl [0, 2, 1, 3, 4, 5, 6] rfl)
          exact loop81 _ 0 ix 0 (Nat.lt_succ_self _) (Nat.zero_add _) (fun _ h => h) _ _ hP hD hS _ (lv_sub hl [0, 1, 2, 3] rfl)
        · have c_4h : ¬ nI (2 ^ n) ≤ nI i := c_4
          have hli : i < 2 ^ n := (hk_nge (2 ^ n) c_4 (hi := by have := pw_le hC.2.1; omega) (hn := by have := hC.2.1; exact Nat.lt_of_le_of_lt (Nat.pow_le_pow_right (by decide) this) (by decide : 2 ^ 6 < 2 ^ 31)))
          refine lv_aload_n hx hb dX6_greedyTest_17 rfl (lv_at hl 1 rfl) ?_
          refine va_get (D := D) (ci := 6) (v := .ref me) (C := RX6) (T := TX6) (N := 11) hx hb hts hi6 hown hK hP 0 rfl rfl 10 (by decide) (hts (.fieldLink RX6 25 "SelfCheckingCircuitModel" "exposed" "[J") (by decide +kernel)) (fun _ h9 => h9) rfl dX6_greedyTest_18 ?_
          refine lv_iload_n hx hb dX6_greedyTest_21 rfl (lv_at hl 0 rfl) ?_
          refine lv_lconst (v := 0) hx hb dX6_greedyTest_22 (by decide) ?_
          refine va_last hx hb hK hP hD hS 3 2 rfl rfl (vp_in_nI (N := 64) (by have := pw_le hC.2.1; have := hli; omega) (by decide)) dX6_greedyTest_23 (fun H locs hP hD hS => ?_)
          rw [show (nI i).toNatClampNeg = i from nI_clamp (by have := pw_le hC.2.1; have := hli; omega)] at hP hD
          have hP : va_P D vwCl [(mo, .inr (6, [.ref ms, .ref mr, .ref mk, .int (nI km), .ref mt, .int (nI ln), .int (nI sp), .int (nI rs), .int (nI ws), .ref mv, .ref me])), (ms, .inl (g.2.1, 147, .inl fs)), (mv, .inl (g.2.1, 30, .inl gv)), (me, .inl (g.2.2.1, 64, .inr (.inl (vp_updL ge i 0))))] H := hP
          have hD : va_D A [(mo, .inr (6, [.ref ms, .ref mr, .ref mk, .int (nI km), .ref mt, .int (nI ln), .int (nI sp), .int (nI rs), .int (nI ws), .ref mv, .ref me])), (ms, .inl (g.2.1, 147, .inl fs)), (mv, .inl (g.2.1, 30, .inl gv)), (me, .inl (g.2.2.1, 64, .inr (.inl (vp_updL ge i 0))))] := hD
          refine lv_iconst (v := 0) hx hb dX6_greedyTest_24 (by decide) ?_
          refine lv_istore_n (lv' := [(3, .int 0), (2, .int (nI i)), (0, .ref mo), (1, .int (nI ix))]) hx hb dX6_greedyTest_25 rfl hl (by decide) rfl (fun ls hl => ?_)
          have loop26 : ∀ (fuel : Nat) (k : Nat) (gv2 : Nat → Int32) (ge2 : Nat → Int64), (2 * N - k) < fuel → (k ≤ 2 * N) → (∀ v, v < i → ∀ y, y < 64 → lb (ge2 v) y = (decide (y < 2 * N) && exB n o cd wt ty pa pb vo nm (nI y) v)) → (∀ y, y < 64 → lb (ge2 i) y = (decide (y < k) && exB n o cd wt ty pa pb vo nm (nI y) i)) → ∀ (H : Heap) (locs : List Loc), va_P D vwCl [(mo, .inr (6, [.ref ms, .ref mr, .ref mk, .int (nI km), .ref mt, .int (nI ln), .int (nI sp), .int (nI rs), .int (nI ws), .ref mv, .ref me])), (ms, .inl (g.2.1, 147, .inl fs)), (mv, .inl (g.2.1, 30, .inl gv2)), (me, .inl (g.2.2.1, 64, .inr (.inl ge2)))] H → va_D A [(mo, .inr (6, [.ref ms, .ref mr, .ref mk, .int (nI km), .ref mt, .int (nI ln), .int (nI sp), .int (nI rs), .int (nI ws), .ref mv, .ref me])), (ms, .inl (g.2.1, 147, .inl fs)), (mv, .inl (g.2.1, 30, .inl gv2)), (me, .inl (g.2.2.1, 64, .inr (.inl ge2)))] → va_S A s.heap H locs → ∀ ls : Array Slot, lv_has ls 11 [(3, .int (nI k)), (2, .int (nI i)), (0, .ref mo), (1, .int (nI ix))] → W p l e (headSpec wsX6_greedyTest ({ frames := 4, cells := 0, slots := 0, locals := 91 })).room s m ([.ref mo, .int (nI ix)] : List Value).toArray below meth c H locs 0 0 (MQ below (va_Qi (S := (Nat → Int32) × (Nat → Int64)) (fun r _ => ∃ ge : Nat → Int64, (∀ v, v < 2 ^ n → ∀ y, y < 64 → lb (ge v) y = (decide (y < 2 * N) && exB n o cd wt ty pa pb vo nm (nI y) v)) ∧ GM ge (2 ^ n) ix 0 r) (fun u => hk_Out D A (match u with | (g1, g2) => [(mo, .inr (6, [.ref ms, .ref mr, .ref mk, .int (nI km), .ref mt, .int (nI ln), .int (nI sp), .int (nI rs), .int (nI ws), .ref mv, .ref me])), (ms, .inl (g.2.1, 147, .inl fs)), (mv, .inl (g.2.1, 30, .inl g1)), (me, .inl (g.2.2.1, 64, .inr (.inl g2)))])) A) ([.ref mo, .int (nI ix)] : List Value).toArray s 0 0 A) (F0 m 26 ls []) := by
            intro fuel
            induction fuel with
            | zero => intro k gv2 ge2 hm; exact absurd hm (Nat.not_lt_zero _)
            | succ fuel ih_26 =>
              intro k gv2 ge2 hm_26 hk hE3 hk2 H locs hP hD hS ls hl
              refine lv_iload_n hx hb dX6_greedyTest_26 rfl (lv_at hl 0 rfl) ?_
              refine lv_iconst (v := 2) hx hb dX6_greedyTest_27 (by decide) ?_
              refine lv_aload_n hx hb dX6_greedyTest_28 rfl (lv_at hl 2 rfl) ?_
              refine va_get (D := D) (ci := 6) (v := .ref ms) (C := RX6) (T := TX6) (N := 11) hx hb hts hi6 hown hK hP 0 rfl rfl 0 (by decide) (hts (.fieldLink RX6 7 "SelfCheckingCircuitModel" "s" "[I") (by decide +kernel)) (fun _ h9 => h9) rfl dX6_greedyTest_29 ?_
              refine hk_csi (va_runS (As := [.ref ms]) (rest := [.int 2, .int (nI k)]) ⟨hx, hb, hml, hown, hts⟩ (c6_nodesOf l D g ti ms fs ) (va_cwS 1 hts gX6_greedyTest_X6_nodesOf rfl rfl rfl (by decide +kernel) ⟨Nat.le_of_ble_eq_true rfl, Nat.le_of_ble_eq_true rfl⟩) (hk_roS hE hP hS [1] rfl) rfl rfl hl.1 rfl (lv_room (Nat.le_of_ble_eq_true rfl)) dX6_greedyTest_32 ⟨Nat.zero_le _, Nat.zero_le _⟩) (fun r_15 hr_16 => ?_)
              subst hr_16
              refine hk_ti (nI N) (by rw [hM.1.1, hM.1.2.1, nI_add, Nat.add_sub_cancel' hC.2.2.1]) ?_
              refine lv_imul hx hb dX6_greedyTest_35 ?_
              refine hk_ti (nI (2 * N)) (pk_mul 2 N) ?_
              refine lv_icmp_ge (tgt := 70) hx hb dX6_greedyTest_36 (by decide) (fun c_17 => ?_) (fun c_17 => ?_)
              · have c_17h : nI (2 * N) ≤ nI k := c_17
                refine lv_iinc (v := (nI (i + 1))) (lv' := [(2, .int (nI (i + 1))), (3, .int (nI k)), (0, .ref mo), (1, .int (nI ix))]) hx hb dX6_greedyTest_70 hl (k := 1) rfl (nI_1 i) (by decide) rfl (fun ls hl => ?_)
                refine lv_goto (tgt := 9) hx hb dX6_greedyTest_73 (by decide) ?_
                exact ih_9 (i + 1) gv2 ge2 (by omega) (by omega) (fun v hv => (Nat.lt_succ_iff_lt_or_eq.mp hv).elim (hE3 v) (fun q y hy => by rw [q, hk2 y hy, (show k = 2 * N by have := hk_ge (2 * N) c_17 (hi := by have := hC.2.2.2.1; have := hC.2.1; omega) (hn := by have := hC.2.2.2.1; have := hC.2.1; omega); omega)])) _ _ hP hD hS _ (lv_sub hl [0, 2, 3] rfl)
              · have c_17h : ¬ nI (2 * N) ≤ nI k := c_17
                refine lv_aload_n hx hb dX6_greedyTest_39 rfl (lv_at hl 2 rfl) ?_
                refine va_get (D := D) (ci := 6) (v := .ref me) (C := RX6) (T := TX6) (N := 11) hx hb hts hi6 hown hK hP 0 rfl rfl 10 (by decide) (hts (.fieldLink RX6 25 "SelfCheckingCircuitModel" "exposed" "[J") (by decide +kernel)) (fun _ h9 => h9) rfl dX6_greedyTest_40 ?_
                refine lv_iload_n hx hb dX6_greedyTest_43 rfl (lv_at hl 1 rfl) ?_
                refine lv_dup2_11 hx hb dX6_greedyTest_44 rfl rfl ?_
                refine va_lald hx hb hK hP 3 2 rfl rfl (vp_in_nI (N := 64) (by have := pw_le hC.2.1; have := hli; omega) (by decide)) dX6_greedyTest_45 ?_
                refine hk_tl (ge2 i) (congrArg ge2 (nI_clamp (by have := pw_le hC.2.1; have := hli; omega))) ?_
                refine lv_aload_n hx hb dX6_greedyTest_46 rfl (lv_at hl 2 rfl) ?_
                refine lv_iload_n hx hb dX6_greedyTest_47 rfl (lv_at hl 1 rfl) ?_
                refine lv_iload_n hx hb dX6_greedyTest_48 rfl (lv_at hl 0 rfl) ?_
                refine hk_cmi (wr := [(me, .inl (g.2.2.1, 64, .inr (.inl ge2)))]) (va_runV (As := [.int (nI i), .int (nI k)]) (rest := [.long (ge2 i), .int (nI i), .ref me]) ⟨hx, hb, hml, hown, hts⟩ (c6_exposes l D g ti _ mo ms mr mk mt mv me fs km ln sp rs ws gv2 n N o cd wt ty pa pb vo nm i (nI k) hC hM (pw_64 hC.2.1 hli) (Or.inr ⟨k, by have := (hk_nge (2 * N) c_17 (hi := by have := hC.2.2.2.1; have := hC.2.1; omega) (hn := by have := hC.2.2.2.1; have := hC.2.1; omega)); have := hC.2.2.2.1; have := hC.2.1; omega, rfl⟩)) (cwV 2 hts gX6_greedyTest_X6_exposes rfl rfl rfl (by decide +kernel) ⟨Nat.le_of_ble_eq_true rfl, Nat.le_of_ble_eq_true rfl⟩) (hk_inV hE hP hD hS hA 6 rfl rfl [0, 1, 2] (by decide) rfl rfl) rfl rfl hl.1 rfl (lv_room (Nat.le_of_ble_eq_true rfl)) dX6_greedyTest_49 ⟨Nat.zero_le _, Nat.zero_le _⟩) hP hD hS hA [0, 1, 2] [3] rfl rfl (by decide) (by decide) (fun r_18 tv H locs hr_19 hP hD hS => ?_)
                try dsimp only at hr_19
                have hP : va_P D vwCl [(me, .inl (g.2.2.1, 64, .inr (.inl ge2))), (mo, .inr (6, [.ref ms, .ref mr, .ref mk, .int (nI km), .ref mt, .int (nI ln), .int (nI sp), .int (nI rs), .int (nI ws), .ref mv, .ref me])), (ms, .inl (g.2.1, 147, .inl fs)), (mv, .inl (g.2.1, 30, .inl tv))] H := hP
                have hD : va_D A [(me, .inl (g.2.2.1, 64, .inr (.inl ge2))), (mo, .inr (6, [.ref ms, .ref mr, .ref mk, .int (nI km), .ref mt, .int (nI ln), .int (nI sp), .int (nI rs), .int (nI ws), .ref mv, .ref me])), (ms, .inl (g.2.1, 147, .inl fs)), (mv, .inl (g.2.1, 30, .inl tv))] := hD
                refine hk_ti (bI (exB n o cd wt ty pa pb vo nm (nI k) i)) hr_19 ?_
                refine lv_if_eq (tgt := 61) hx hb dX6_greedyTest_52 (by decide) (fun c_20 => ?_) (fun c_20 => ?_)
                · have c_20h : bI (exB n o cd wt ty pa pb vo nm (nI k) i) = (0 : Int32) := c_20
                  refine lv_lconst (v := 0) hx hb dX6_greedyTest_61 (by decide) ?_
                  refine lv_lor hx hb dX6_greedyTest_62 ?_
                  refine va_last hx hb hK hP hD hS 0 2 rfl rfl (vp_in_nI (N := 64) (by have := pw_le hC.2.1; have := hli; omega) (by decide)) dX6_greedyTest_63 (fun H locs hP hD hS => ?_)
                  rw [show (nI i).toNatClampNeg = i from nI_clamp (by have := pw_le hC.2.1; have := hli; omega)] at hP hD
                  have hP : va_P D vwCl [(me, .inl (g.2.2.1, 64, .inr (.inl (vp_updL ge2 i ((ge2 i) ||| (0 : Int64)))))), (mo, .inr (6, [.ref ms, .ref mr, .ref mk, .int (nI km), .ref mt, .int (nI ln), .int (nI sp), .int (nI rs), .int (nI ws), .ref mv, .ref me])), (ms, .inl (g.2.1, 147, .inl fs)), (mv, .inl (g.2.1, 30, .inl tv))] H := hP
                  have hD : va_D A [(me, .inl (g.2.2.1, 64, .inr (.inl (vp_updL ge2 i ((ge2 i) ||| (0 : Int64)))))), (mo, .inr (6, [.ref ms, .ref mr, .ref mk, .int (nI km), .ref mt, .int (nI ln), .int (nI sp), .int (nI rs), .int (nI ws), .ref mv, .ref me])), (ms, .inl (g.2.1, 147, .inl fs)), (mv, .inl (g.2.1, 30, .inl tv))] := hD
                  refine lv_iinc (v := (nI (k + 1))) (lv' := [(3, .int (nI (k + 1))), (2, .int (nI i)), (0, .ref mo), (1, .int (nI ix))]) hx hb dX6_greedyTest_64 hl (k := 0) rfl (nI_1 k) (by decide) rfl (fun ls hl => ?_)
                  refine lv_goto (tgt := 26) hx hb dX6_greedyTest_67 (by decide) ?_
                  have hlt : k < 2 * N := (hk_nge (2 * N) c_17 (hi := by have := hC.2.2.2.1; have := hC.2.1; omega) (hn := by have := hC.2.2.2.1; have := hC.2.1; omega))
                  exact ih_26 (k + 1) tv (vp_updL ge2 i ((ge2 i) ||| (0 : Int64))) (by omega) (by omega) (fun v hv y hy => by rw [pk_uLn (by omega)]; exact hE3 v hv y hy) (fun y hy => by rw [pk_uLs, lb_or, hk2 y hy, lb_0, Bool.or_false]; exact hk_ce1 (fun q => by rw [q]; exact bI_0.mp c_20)) _ _ (hP.sub [1, 2, 3, 0] rfl) (hD.sub [1, 2, 3, 0] (by decide) rfl) hS _ (lv_sub hl [0, 1, 2, 3] rfl)
                · have c_20h : ¬ bI (exB n o cd wt ty pa pb vo nm (nI k) i) = (0 : Int32) := c_20
                  refine lv_lconst (v := 1) hx hb dX6_greedyTest_55 (by decide) ?_
                  refine lv_iload_n hx hb dX6_greedyTest_56 rfl (lv_at hl 0 rfl) ?_
                  refine lv_lshl hx hb dX6_greedyTest_57 rfl ?_
                  refine lv_goto (tgt := 62) hx hb dX6_greedyTest_58 (by decide) ?_
                  refine lv_lor hx hb dX6_greedyTest_62 ?_
                  refine va_last hx hb hK hP hD hS 0 2 rfl rfl (vp_in_nI (N := 64) (by have := pw_le hC.2.1; have := hli; omega) (by decide)) dX6_greedyTest_63 (fun H locs hP hD hS => ?_)
                  rw [show (nI i).toNatClampNeg = i from nI_clamp (by have := pw_le hC.2.1; have := hli; omega)] at hP hD
                  have hP : va_P D vwCl [(me, .inl (g.2.2.1, 64, .inr (.inl (vp_updL ge2 i ((ge2 i) ||| ((1 : Int64) <<< ((nI k).toInt64 &&& 63))))))), (mo, .inr (6, [.ref ms, .ref mr, .ref mk, .int (nI km), .ref mt, .int (nI ln), .int (nI sp), .int (nI rs), .int (nI ws), .ref mv, .ref me])), (ms, .inl (g.2.1, 147, .inl fs)), (mv, .inl (g.2.1, 30, .inl tv))] H := hP
                  have hD : va_D A [(me, .inl (g.2.2.1, 64, .inr (.inl (vp_updL ge2 i ((ge2 i) ||| ((1 : Int64) <<< ((nI k).toInt64 &&& 63))))))), (mo, .inr (6, [.ref ms, .ref mr, .ref mk, .int (nI km), .ref mt, .int (nI ln), .int (nI sp), .int (nI rs), .int (nI ws), .ref mv, .ref me])), (ms, .inl (g.2.1, 147, .inl fs)), (mv, .inl (g.2.1, 30, .inl tv))] := hD
                  refine lv_iinc (v := (nI (k + 1))) (lv' := [(3, .int (nI (k + 1))), (2, .int (nI i)), (0, .ref mo), (1, .int (nI ix))]) hx hb dX6_greedyTest_64 hl (k := 0) rfl (nI_1 k) (by decide) rfl (fun ls hl => ?_)
                  refine lv_goto (tgt := 26) hx hb dX6_greedyTest_67 (by decide) ?_
                  have hlt : k < 2 * N := (hk_nge (2 * N) c_17 (hi := by have := hC.2.2.2.1; have := hC.2.1; omega) (hn := by have := hC.2.2.2.1; have := hC.2.1; omega))
                  exact ih_26 (k + 1) tv (vp_updL ge2 i ((ge2 i) ||| ((1 : Int64) <<< ((nI k).toInt64 &&& 63)))) (by omega) (by omega) (fun v hv y hy => by rw [pk_uLn (by omega)]; exact hE3 v hv y hy) (fun y hy => by rw [pk_uLs, lb_or, hk2 y hy, lb_shl1 (by have := hC.2.2.2.1; have := hC.2.1; omega) hy]; exact hk_ce3 (P := fun y => exB n o cd wt ty pa pb vo nm (nI y) i) (fun q => by rw [q]; exact bI_n0 c_20)) _ _ (hP.sub [1, 2, 3, 0] rfl) (hD.sub [1, 2, 3, 0] (by decide) rfl) hS _ (lv_sub hl [0, 1, 2, 3] rfl)
          exact loop26 _ 0 gv (vp_updL ge i 0) (Nat.lt_succ_self _) (Nat.zero_le _) (fun v hv y hy => by rw [pk_uLn (by omega)]; exact hE2 v hv y hy) (fun y hy => by rw [pk_uLs, lb_0]; rfl) _ _ hP hD hS _ (lv_sub hl [0, 1, 2, 3] rfl)
    exact loop9 _ 0 fv fe (Nat.lt_succ_self _) (Nat.zero_le _) (fun _ h => absurd h (Nat.not_lt_zero _)) _ _ hP hD hS _ (lv_sub hl [0, 1, 2] rfl)
  · have c_1h : ¬ (0 : Int32) ≤ nI ix := c_1
    exact absurd (nI_pos' hix) c_1
set_option maxHeartbeats 4000000 in
set_option maxRecDepth 100000 in
theorem c6_greedyTest_no (l : Launch) (D : va_G) (g : hk_G) (ti : Nat) (mo : Nat) (ms : Nat) (mr : Nat) (mk : Nat) (mt : Nat) (mv : Nat) (me : Nat) (fs : Nat → Int32) (km : Nat) (ln : Nat) (sp : Nat) (rs : Nat) (ws : Nat) (v : Int32) (hv : v < 0) : Met l yX6_greedyTest wsX6_greedyTest ({ frames := 0, cells := 0, slots := 0, locals := 0 }) (va_Pc [.ref mo, .int v] (hk_Ro D g ti [(mo, .inr (6, [.ref ms, .ref mr, .ref mk, .int (nI km), .ref mt, .int (nI ln), .int (nI sp), .int (nI rs), .int (nI ws), .ref mv, .ref me])), (ms, .inl (g.2.1, 147, .inl fs))])) (vp_Si (fun r => r = -101)) 0 0 (fun _ => False) := by
  refine Met.ofW (cc := cX6_greedyTest) (maxL := 11) (ret := (some .int)) (by decide) rfl ?_
  intro p e s m args below meth c s₁ Bd hml hv
  obtain ⟨rfl, hP, hE⟩ := hv
  have hx := Bd.exec
  have hb := Bd.bytes
  have hr := Bd.returns
  have hts := atoms_spec (ws := wsX6_greedyTest) Bd.pre
  have hown : s.vm.findClass RX6 = some m.cls := findClass_of_methodNamed Bd.named
  have hlocks := Bd.notSynchronized
  have hK := hE.1
  have hS : va_S (fun _ => False) s.heap s.heap [] := va_S.rf
  have hl := lv_entry ([.ref mo, .int v]) (n := 11) (Nat.le_of_ble_eq_true rfl)
  rw [lg_entry_eq]
  generalize (lg_sl ([.ref mo, .int v]) ++ List.replicate (11 - (lg_sl ([.ref mo, .int v])).length) Slot.unset).toArray = ls at hl ⊢
  have hl : lv_has ls 11 [(0, .ref mo), (1, .int v)] := hl
  refine lv_iload_n hx hb dX6_greedyTest_0 rfl (lv_at hl 1 rfl) ?_
  refine lv_if_ge (tgt := 7) hx hb dX6_greedyTest_1 (by decide) (fun c_1 => ?_) (fun c_1 => ?_)
  · have c_1h : (0 : Int32) ≤ v := c_1
    exact absurd hv (Int32.not_lt.mpr c_1)
  · have c_1h : ¬ (0 : Int32) ≤ v := c_1
    refine lv_bipush (v := (-101)) hx hb dX6_greedyTest_4 (by decide) ?_
    exact W.iret (v := (-101)) hx hb hr (fun tt ht hW => ⟨_, rfl, rfl, ht⟩) (fun _ h => by cases h) dX6_greedyTest_6
