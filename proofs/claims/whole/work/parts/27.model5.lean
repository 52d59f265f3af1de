def okU (x y : Nat) : Prop := x = y ∨ (cov y x = false ∧ cov x y = false)
def pU (nm : Int64) (W : Nat → Nat) (a b : Nat) : Prop := lb nm a = true → lb nm b = true → okU (W a) (W b)
def aU (nm : Int64) (W : Nat → Nat) (i : Nat) : Prop := ∀ a, a < i → ∀ b, b < a → pU nm W a b
def bU (nm : Int64) (W : Nat → Nat) (i j : Nat) : Prop := aU nm W i ∧ ∀ b, b < j → pU nm W i b
theorem bU_0 {nm : Int64} {W : Nat → Nat} {i : Nat} {b : Bool} (h : b = true ↔ aU nm W i) : b = true ↔ bU nm W i 0 := ⟨fun q => ⟨h.mp q, fun _ h => absurd h (Nat.not_lt_zero _)⟩, fun q => h.mpr q.1⟩
theorem bU_e {nm : Int64} {W : Nat → Nat} {i j : Nat} {b : Bool} (h : b = true ↔ bU nm W i j) (e : j = i) : b = true ↔ aU nm W (i + 1) := by
  subst e
  refine h.trans ⟨fun q a ha => ?_, fun q => ⟨fun a ha => q a (by omega), q j (by omega)⟩⟩
  rcases Nat.lt_succ_iff_lt_or_eq.mp ha with h1 | h1
  · exact q.1 a h1
  · subst h1; exact q.2
theorem bU_t {nm : Int64} {W : Nat → Nat} {i j : Nat} {b : Bool} (h : b = true ↔ bU nm W i j) (q : pU nm W i j) : b = true ↔ bU nm W i (j + 1) := by
  refine h.trans ⟨fun z => ⟨z.1, fun k hk => ?_⟩, fun z => ⟨z.1, fun k hk => z.2 k (by omega)⟩⟩
  rcases Nat.lt_succ_iff_lt_or_eq.mp hk with h1 | h1
  · exact z.2 k h1
  · subst h1; exact q
theorem bU_f {nm : Int64} {W : Nat → Nat} {i j : Nat} (q : ¬ pU nm W i j) : false = true ↔ bU nm W i (j + 1) := ⟨fun z => absurd z (by decide), fun z => absurd (z.2 j (by omega)) q⟩
theorem bU_z {nm : Int64} {W : Nat → Nat} {i j : Nat} {b : Bool} (h : b = true ↔ bU nm W i j) (hb : b = false) : false = true ↔ bU nm W i (j + 1) := ⟨fun z => absurd z (by decide), fun z => absurd (h.mpr ⟨z.1, fun k hk => z.2 k (by omega)⟩) (by rw [hb]; decide)⟩
set_option maxHeartbeats 4000000 in
set_option maxRecDepth 100000 in
theorem c6_isUnordered (l : Launch) (D : va_G) (g : hk_G) (ti : Nat) (sz : Nat) (mo : Nat) (ms : Nat) (mr : Nat) (mk : Nat) (mt : Nat) (mv : Nat) (me : Nat) (fs : Nat → Int32) (km : Nat) (ln : Nat) (sp : Nat) (rs : Nat) (ws : Nat) (fv : Nat → Int32) (n : Nat) (N : Nat) (o : Nat) (cd : Nat) (wt : Nat) (ty : Nat → Nat) (pa : Nat → Nat) (pb : Nat → Nat) (vo : Nat → Nat) (nm : Int64) (hC : Cok n N o cd wt) (hM : MR n N o cd wt ty pa pb vo nm fs) : Met l yX6_isUnordered wsX6_isUnordered ({ frames := 3, cells := 0, slots := 0, locals := 69 }) (va_Pc [.ref mo] (hk_In D g ti [(mo, .inr (6, [.ref ms, .ref mr, .ref mk, .int (nI km), .ref mt, .int (nI ln), .int (nI sp), .int (nI rs), .int (nI ws), .ref mv, .ref me])), (ms, .inl (g.2.1, 147, .inl fs)), (mv, .inl (g.2.1, 30, .inl fv))] sz)) (va_Qi (S := Nat → Int32) (fun r _ => (aU nm (fun w => wd (oB n ty pa pb vo (-1) w) o) (2 ^ n) ∧ r = 1) ∨ (¬ aU nm (fun w => wd (oB n ty pa pb vo (-1) w) o) (2 ^ n) ∧ r = 0)) (fun u => hk_Out D (va_A [(mo, .inr (6, [.ref ms, .ref mr, .ref mk, .int (nI km), .ref mt, .int (nI ln), .int (nI sp), .int (nI rs), .int (nI ws), .ref mv, .ref me])), (ms, .inl (g.2.1, 147, .inl fs)), (mv, .inl (g.2.1, 30, .inl fv))] sz) (match u with | f' => [(mo, .inr (6, [.ref ms, .ref mr, .ref mk, .int (nI km), .ref mt, .int (nI ln), .int (nI sp), .int (nI rs), .int (nI ws), .ref mv, .ref me])), (ms, .inl (g.2.1, 147, .inl fs)), (mv, .inl (g.2.1, 30, .inl f'))])) (va_A [(mo, .inr (6, [.ref ms, .ref mr, .ref mk, .int (nI km), .ref mt, .int (nI ln), .int (nI sp), .int (nI rs), .int (nI ws), .ref mv, .ref me])), (ms, .inl (g.2.1, 147, .inl fs)), (mv, .inl (g.2.1, 30, .inl fv))] sz)) 0 0 (va_A [(mo, .inr (6, [.ref ms, .ref mr, .ref mk, .int (nI km), .ref mt, .int (nI ln), .int (nI sp), .int (nI rs), .int (nI ws), .ref mv, .ref me])), (ms, .inl (g.2.1, 147, .inl fs)), (mv, .inl (g.2.1, 30, .inl fv))] sz) := by
  refine Met.ofW (cc := cX6_isUnordered) (maxL := 6) (ret := (some .int)) (by decide) rfl ?_
  intro p e s m args below meth c s₁ Bd hml hv
  obtain ⟨rfl, hsz, hP, hD0, hE⟩ := hv
  have hx := Bd.exec
  have hb := Bd.bytes
  have hr := Bd.returns
  have hts := atoms_spec (ws := wsX6_isUnordered) Bd.pre
  have hown : s.vm.findClass RX6 = some m.cls := findClass_of_methodNamed Bd.named
  have hlocks := Bd.notSynchronized
  have hK := hE.1
  have hi6 : ∀ w ∈ wsX60, w ∈ wsX6_isUnordered := fun w h => List.mem_cons_of_mem _ (List.mem_append_right _ h)
  subst hsz
  have hD := hD0.self (sz := s.heap.size)
  generalize hAe : va_A [(mo, .inr (6, [.ref ms, .ref mr, .ref mk, .int (nI km), .ref mt, .int (nI ln), .int (nI sp), .int (nI rs), .int (nI ws), .ref mv, .ref me])), (ms, .inl (g.2.1, 147, .inl fs)), (mv, .inl (g.2.1, 30, .inl fv))] s.heap.size = A at hD hE ⊢
  have hA : ∀ q : Nat, s.heap.size ≤ q → A q := fun q h => by rw [← hAe]; exact Or.inr h
  have hS : va_S A s.heap s.heap [] := va_S.rf
  have hl := lv_entry ([.ref mo]) (n := 6) (Nat.le_of_ble_eq_true rfl)
  rw [lg_entry_eq]
  generalize (lg_sl ([.ref mo]) ++ List.replicate (6 - (lg_sl ([.ref mo])).length) Slot.unset).toArray = ls at hl ⊢
  have hl : lv_has ls 6 [(0, .ref mo)] := hl
  refine lv_iconst (v := 1) hx hb dX6_isUnordered_0 (by decide) ?_
  refine lv_istore_n (lv' := [(1, .int 1), (0, .ref mo)]) hx hb dX6_isUnordered_1 rfl hl (by decide) rfl (fun ls hl => ?_)
  refine lv_iconst (v := 0) hx hb dX6_isUnordered_2 (by decide) ?_
  refine lv_istore_n (lv' := [(2, .int 0), (1, .int 1), (0, .ref mo)]) hx hb dX6_isUnordered_3 rfl hl (by decide) rfl (fun ls hl => ?_)
  have loop4 : ∀ (fuel : Nat) (i : Nat) (b : Bool) (gv : Nat → Int32), (2 ^ n - i) < fuel → (i ≤ 2 ^ n) → (b = true ↔ aU nm (fun w => wd (oB n ty pa pb vo (-1) w) o) i) → ∀ (H : Heap) (locs : List Loc), va_P D vwCl [(mo, .inr (6, [.ref ms, .ref mr, .ref mk, .int (nI km), .ref mt, .int (nI ln), .int (nI sp), .int (nI rs), .int (nI ws), .ref mv, .ref me])), (ms, .inl (g.2.1, 147, .inl fs)), (mv, .inl (g.2.1, 30, .inl gv))] H → va_D A [(mo, .inr (6, [.ref ms, .ref mr, .ref mk, .int (nI km), .ref mt, .int (nI ln), .int (nI sp), .int (nI rs), .int (nI ws), .ref mv, .ref me])), (ms, .inl (g.2.1, 147, .inl fs)), (mv, .inl (g.2.1, 30, .inl gv))] → va_S A s.heap H locs → ∀ ls : Array Slot, lv_has ls 6 [(2, .int (nI i)), (1, .int (bI b)), (0, .ref mo)] → W p l e (headSpec wsX6_isUnordered ({ frames := 3, cells := 0, slots := 0, locals := 69 })).room s m ([.ref mo] : List Value).toArray below meth c H locs 0 0 (MQ below (va_Qi (S := Nat → Int32) (fun r _ => (aU nm (fun w => wd (oB n ty pa pb vo (-1) w) o) (2 ^ n) ∧ r = 1) ∨ (¬ aU nm (fun w => wd (oB n ty pa pb vo (-1) w) o) (2 ^ n) ∧ r = 0)) (fun u => hk_Out D A (match u with | f' => [(mo, .inr (6, [.ref ms, .ref mr, .ref mk, .int (nI km), .ref mt, .int (nI ln), .int (nI sp), .int (nI rs), .int (nI ws), .ref mv, .ref me])), (ms, .inl (g.2.1, 147, .inl fs)), (mv, .inl (g.2.1, 30, .inl f'))])) A) ([.ref mo] : List Value).toArray s 0 0 A) (F0 m 4 ls []) := by
    intro fuel
    induction fuel with
    | zero => intro i b gv hm; exact absurd hm (Nat.not_lt_zero _)
    | succ fuel ih_4 =>
      intro i b gv hm_4 hi hb2 H locs hP hD hS ls hl
      refine lv_iload_n hx hb dX6_isUnordered_4 rfl (lv_at hl 0 rfl) ?_
      refine lv_aload_n hx hb dX6_isUnordered_5 rfl (lv_at hl 2 rfl) ?_
      refine hk_csi (va_runV (As := []) (rest := [.int (nI i)]) ⟨hx, hb, hml, hown, hts⟩ (c6_many l D g ti mo ms mr mk mt mv me fs km ln sp rs ws n N o cd wt ty pa pb vo nm hC hM) (cwV 0 hts gX6_isUnordered_X6_many rfl rfl rfl (by decide +kernel) ⟨Nat.le_of_ble_eq_true rfl, Nat.le_of_ble_eq_true rfl⟩) (hk_roV hE hP hS 6 rfl rfl [0, 1] rfl rfl) rfl rfl hl.1 rfl (lv_room (Nat.le_of_ble_eq_true rfl)) dX6_isUnordered_6 ⟨Nat.zero_le _, Nat.zero_le _⟩) (fun r_1 hr_2 => ?_)
      subst hr_2
      refine lv_icmp_ge (tgt := 110) hx hb dX6_isUnordered_9 (by decide) (fun c_3 => ?_) (fun c_3 => ?_)
      · have c_3h : nI (2 ^ n) ≤ nI i := c_3
        refine lv_iload_n hx hb dX6_isUnordered_110 rfl (lv_at hl 1 rfl) ?_
        refine lv_if_eq (tgt := 118) hx hb dX6_isUnordered_111 (by decide) (fun c_4 => ?_) (fun c_4 => ?_)
        · have c_4h : bI b = (0 : Int32) := c_4
          refine lv_iconst (v := 0) hx hb dX6_isUnordered_118 (by decide) ?_
          have hP9 := hP.sub (ws' := [(mo, .inr (6, [.ref ms, .ref mr, .ref mk, .int (nI km), .ref mt, .int (nI ln), .int (nI sp), .int (nI rs), .int (nI ws), .ref mv, .ref me])), (ms, .inl (g.2.1, 147, .inl fs)), (mv, .inl (g.2.1, 30, .inl gv))]) [0, 1, 2] rfl
          have hD9 := hD.sub (ws' := [(mo, .inr (6, [.ref ms, .ref mr, .ref mk, .int (nI km), .ref mt, .int (nI ln), .int (nI sp), .int (nI rs), .int (nI ws), .ref mv, .ref me])), (ms, .inl (g.2.1, 147, .inl fs)), (mv, .inl (g.2.1, 30, .inl gv))]) [0, 1, 2] (by decide) rfl
          exact W.iret (v := 0) hx hb hr (fun tt ht hW => ⟨⟨_, gv, rfl, Or.inr ⟨fun q9 => absurd (hb2.mpr ((show i = 2 ^ n by have := (hk_ge (2 ^ n) c_3 (hi := by have := pw_le hC.2.1; omega) (hn := by have := hC.2.1; exact Nat.lt_of_le_of_lt (Nat.pow_le_pow_right (by decide) this) (by decide : 2 ^ 6 < 2 ^ 31))); omega) ▸ q9)) (by rw [bI_0.mp c_4]; decide), rfl⟩, by rw [ht]; exact hP9, hD9⟩, hS.F ht⟩) hS.2.2 dX6_isUnordered_119
        · have c_4h : ¬ bI b = (0 : Int32) := c_4
          refine lv_iconst (v := 1) hx hb dX6_isUnordered_114 (by decide) ?_
          refine lv_goto (tgt := 119) hx hb dX6_isUnordered_115 (by decide) ?_
          have hP9 := hP.sub (ws' := [(mo, .inr (6, [.ref ms, .ref mr, .ref mk, .int (nI km), .ref mt, .int (nI ln), .int (nI sp), .int (nI rs), .int (nI ws), .ref mv, .ref me])), (ms, .inl (g.2.1, 147, .inl fs)), (mv, .inl (g.2.1, 30, .inl gv))]) [0, 1, 2] rfl
          have hD9 := hD.sub (ws' := [(mo, .inr (6, [.ref ms, .ref mr, .ref mk, .int (nI km), .ref mt, .int (nI ln), .int (nI sp), .int (nI rs), .int (nI ws), .ref mv, .ref me])), (ms, .inl (g.2.1, 147, .inl fs)), (mv, .inl (g.2.1, 30, .inl gv))]) [0, 1, 2] (by decide) rfl
          exact W.iret (v := 1) hx hb hr (fun tt ht hW => ⟨⟨_, gv, rfl, Or.inl ⟨(show i = 2 ^ n by have := (hk_ge (2 ^ n) c_3 (hi := by have := pw_le hC.2.1; omega) (hn := by have := hC.2.1; exact Nat.lt_of_le_of_lt (Nat.pow_le_pow_right (by decide) this) (by decide : 2 ^ 6 < 2 ^ 31))); omega) ▸ hb2.mp (bI_n0 c_4), rfl⟩, by rw [ht]; exact hP9, hD9⟩, hS.F ht⟩) hS.2.2 dX6_isUnordered_119
      · have c_3h : ¬ nI (2 ^ n) ≤ nI i := c_3
        refine lv_iconst (v := 0) hx hb dX6_isUnordered_12 (by decide) ?_
        refine lv_istore_n (lv' := [(3, .int 0), (2, .int (nI i)), (1, .int (bI b)), (0, .ref mo)]) hx hb dX6_isUnordered_13 rfl hl (by decide) rfl (fun ls hl => ?_)
        have hli : i < 2 ^ n := (hk_nge (2 ^ n) c_3 (hi := by have := pw_le hC.2.1; omega) (hn := by have := hC.2.1; exact Nat.lt_of_le_of_lt (Nat.pow_le_pow_right (by decide) this) (by decide : 2 ^ 6 < 2 ^ 31)))
        have loop14 : ∀ (fuel : Nat) (j : Nat) (b2 : Bool) (gw : Nat → Int32), (i - j) < fuel → (j ≤ i) → (b2 = true ↔ bU nm (fun w => wd (oB n ty pa pb vo (-1) w) o) i j) → ∀ (H : Heap) (locs : List Loc), va_P D vwCl [(mo, .inr (6, [.ref ms, .ref mr, .ref mk, .int (nI km), .ref mt, .int (nI ln), .int (nI sp), .int (nI rs), .int (nI ws), .ref mv, .ref me])), (ms, .inl (g.2.1, 147, .inl fs)), (mv, .inl (g.2.1, 30, .inl gw))] H → va_D A [(mo, .inr (6, [.ref ms, .ref mr, .ref mk, .int (nI km), .ref mt, .int (nI ln), .int (nI sp), .int (nI rs), .int (nI ws), .ref mv, .ref me])), (ms, .inl (g.2.1, 147, .inl fs)), (mv, .inl (g.2.1, 30, .inl gw))] → va_S A s.heap H locs → ∀ ls : Array Slot, lv_has ls 6 [(3, .int (nI j)), (1, .int (bI b2)), (2, .int (nI i)), (0, .ref mo)] → W p l e (headSpec wsX6_isUnordered ({ frames := 3, cells := 0, slots := 0, locals := 69 })).room s m ([.ref mo] : List Value).toArray below meth c H locs 0 0 (MQ below (va_Qi (S := Nat → Int32) (fun r _ => (aU nm (fun w => wd (oB n ty pa pb vo (-1) w) o) (2 ^ n) ∧ r = 1) ∨ (¬ aU nm (fun w => wd (oB n ty pa pb vo (-1) w) o) (2 ^ n) ∧ r = 0)) (fun u => hk_Out D A (match u with | f' => [(mo, .inr (6, [.ref ms, .ref mr, .ref mk, .int (nI km), .ref mt, .int (nI ln), .int (nI sp), .int (nI rs), .int (nI ws), .ref mv, .ref me])), (ms, .inl (g.2.1, 147, .inl fs)), (mv, .inl (g.2.1, 30, .inl f'))])) A) ([.ref mo] : List Value).toArray s 0 0 A) (F0 m 14 ls []) := by
          intro fuel
          induction fuel with
          | zero => intro j b2 gw hm; exact absurd hm (Nat.not_lt_zero _)
          | succ fuel ih_14 =>
            intro j b2 gw hm_14 hj hb3 H locs hP hD hS ls hl
            refine lv_iload_n hx hb dX6_isUnordered_14 rfl (lv_at hl 0 rfl) ?_
            refine lv_iload_n hx hb dX6_isUnordered_15 rfl (lv_at hl 2 rfl) ?_
            refine lv_icmp_ge (tgt := 104) hx hb dX6_isUnordered_16 (by decide) (fun c_5 => ?_) (fun c_5 => ?_)
            · have c_5h : nI i ≤ nI j := c_5
              refine lv_iinc (v := (nI (i + 1))) (lv' := [(2, .int (nI (i + 1))), (3, .int (nI j)), (1, .int (bI b2)), (0, .ref mo)]) hx hb dX6_isUnordered_104 hl (k := 2) rfl (nI_1 i) (by decide) rfl (fun ls hl => ?_)
              refine lv_goto (tgt := 4) hx hb dX6_isUnordered_107 (by decide) ?_
              exact ih_4 (i + 1) b2 gw (by omega) (by omega) (bU_e hb3 (by have := hk_ge i c_5 (hi := by have := pw_le hC.2.1; omega) (hn := by have := pw_le hC.2.1; omega); omega)) _ _ hP hD hS _ (lv_sub hl [0, 2, 3] rfl)
            · have c_5h : ¬ nI i ≤ nI j := c_5
              refine lv_aload_n hx hb dX6_isUnordered_19 rfl (lv_at hl 3 rfl) ?_
              refine va_get (D := D) (ci := 6) (v := .ref ms) (C := RX6) (T := TX6) (N := 11) hx hb hts hi6 hown hK hP 0 rfl rfl 0 (by decide) (hts (.fieldLink RX6 7 "SelfCheckingCircuitModel" "s" "[I") (by decide +kernel)) (fun _ h9 => h9) rfl dX6_isUnordered_20 ?_
              refine lv_bipush (v := 83) hx hb dX6_isUnordered_23 (by decide) ?_
              refine lv_iload_n hx hb dX6_isUnordered_25 rfl (lv_at hl 2 rfl) ?_
              refine lv_iadd hx hb dX6_isUnordered_26 ?_
              refine hk_ti (nI (83 + i)) (nI_add 83 i) ?_
              refine va_iald hx hb hK hP 1 1 rfl rfl (vp_in_nI (N := 147) (by have := (pw_64 hC.2.1 (hk_nge (2 ^ n) c_3 (hi := by have := pw_le hC.2.1; omega) (hn := by have := hC.2.1; exact Nat.lt_of_le_of_lt (Nat.pow_le_pow_right (by decide) this) (by decide : 2 ^ 6 < 2 ^ 31)))); omega) (by decide)) dX6_isUnordered_27 ?_
              refine hk_ti (fs (83 + i)) (congrArg fs (nI_clamp (by have := (pw_64 hC.2.1 (hk_nge (2 ^ n) c_3 (hi := by have := pw_le hC.2.1; omega) (hn := by have := hC.2.1; exact Nat.lt_of_le_of_lt (Nat.pow_le_pow_right (by decide) this) (by decide : 2 ^ 6 < 2 ^ 31)))); omega))) ?_
              refine hk_ti (bI (lb nm i)) (hM.2.2.2 i ((pw_64 hC.2.1 (hk_nge (2 ^ n) c_3 (hi := by have := pw_le hC.2.1; omega) (hn := by have := hC.2.1; exact Nat.lt_of_le_of_lt (Nat.pow_le_pow_right (by decide) this) (by decide : 2 ^ 6 < 2 ^ 31)))))) ?_
              refine lv_iconst (v := 1) hx hb dX6_isUnordered_28 (by decide) ?_
              refine lv_icmp_ne (tgt := 98) hx hb dX6_isUnordered_29 (by decide) (fun c_6 => ?_) (fun c_6 => ?_)
              · have c_6h : ¬ bI (lb nm i) = (1 : Int32) := c_6
                refine lv_iinc (v := (nI (j + 1))) (lv' := [(3, .int (nI (j + 1))), (1, .int (bI b2)), (2, .int (nI i)), (0, .ref mo)]) hx hb dX6_isUnordered_98 hl (k := 0) rfl (nI_1 j) (by decide) rfl (fun ls hl => ?_)
                refine lv_goto (tgt := 14) hx hb dX6_isUnordered_101 (by decide) ?_
                have hlt : j < i := (hk_nge i c_5 (hi := by have := pw_le hC.2.1; omega) (hn := by have := pw_le hC.2.1; omega))
                exact ih_14 (j + 1) b2 gw (by omega) (by omega) (bU_t hb3 (fun q => absurd q (by rw [bI_n1 c_6]; decide))) _ _ hP hD hS _ (lv_sub hl [0, 1, 2, 3] rfl)
              · have c_6h : bI (lb nm i) = (1 : Int32) := c_6
                refine lv_aload_n hx hb dX6_isUnordered_32 rfl (lv_at hl 3 rfl) ?_
                refine va_get (D := D) (ci := 6) (v := .ref ms) (C := RX6) (T := TX6) (N := 11) hx hb hts hi6 hown hK hP 0 rfl rfl 0 (by decide) (hts (.fieldLink RX6 7 "SelfCheckingCircuitModel" "s" "[I") (by decide +kernel)) (fun _ h9 => h9) rfl dX6_isUnordered_33 ?_
                refine lv_bipush (v := 83) hx hb dX6_isUnordered_36 (by decide) ?_
                refine lv_iload_n hx hb dX6_isUnordered_38 rfl (lv_at hl 0 rfl) ?_
                refine lv_iadd hx hb dX6_isUnordered_39 ?_
                refine hk_ti (nI (83 + j)) (nI_add 83 j) ?_
                refine va_iald hx hb hK hP 1 1 rfl rfl (vp_in_nI (N := 147) (by have := (Nat.lt_trans (hk_nge i c_5 (hi := by have := pw_le hC.2.1; omega) (hn := by have := pw_le hC.2.1; omega)) (pw_64 hC.2.1 hli)); omega) (by decide)) dX6_isUnordered_40 ?_
                refine hk_ti (fs (83 + j)) (congrArg fs (nI_clamp (by have := (Nat.lt_trans (hk_nge i c_5 (hi := by have := pw_le hC.2.1; omega) (hn := by have := pw_le hC.2.1; omega)) (pw_64 hC.2.1 hli)); omega))) ?_
                refine hk_ti (bI (lb nm j)) (hM.2.2.2 j ((Nat.lt_trans (hk_nge i c_5 (hi := by have := pw_le hC.2.1; omega) (hn := by have := pw_le hC.2.1; omega)) (pw_64 hC.2.1 hli)))) ?_
                refine lv_iconst (v := 1) hx hb dX6_isUnordered_41 (by decide) ?_
                refine lv_icmp_ne (tgt := 98) hx hb dX6_isUnordered_42 (by decide) (fun c_7 => ?_) (fun c_7 => ?_)
                · have c_7h : ¬ bI (lb nm j) = (1 : Int32) := c_7
                  refine lv_iinc (v := (nI (j + 1))) (lv' := [(3, .int (nI (j + 1))), (1, .int (bI b2)), (2, .int (nI i)), (0, .ref mo)]) hx hb dX6_isUnordered_98 hl (k := 0) rfl (nI_1 j) (by decide) rfl (fun ls hl => ?_)
                  refine lv_goto (tgt := 14) hx hb dX6_isUnordered_101 (by decide) ?_
                  have hlt : j < i := (hk_nge i c_5 (hi := by have := pw_le hC.2.1; omega) (hn := by have := pw_le hC.2.1; omega))
                  exact ih_14 (j + 1) b2 gw (by omega) (by omega) (bU_t hb3 (fun _ q => absurd q (by rw [bI_n1 c_7]; decide))) _ _ hP hD hS _ (lv_sub hl [0, 1, 2, 3] rfl)
                · have c_7h : bI (lb nm j) = (1 : Int32) := c_7
                  refine lv_aload_n hx hb dX6_isUnordered_45 rfl (lv_at hl 3 rfl) ?_
                  refine lv_iload_n hx hb dX6_isUnordered_46 rfl (lv_at hl 2 rfl) ?_
                  refine lv_iconst (v := (-1)) hx hb dX6_isUnordered_47 (by decide) ?_
                  refine hk_cmi (wr := []) (va_runV (As := [.int (nI i), .int (-1)]) (rest := []) ⟨hx, hb, hml, hown, hts⟩ (c6_told l D g ti _ mo ms mr mk mt mv me fs km ln sp rs ws gw n N o cd wt ty pa pb vo nm i (-1) hC hM (pw_64 hC.2.1 hli) (Or.inl rfl)) (cwV 2 hts gX6_isUnordered_X6_told rfl rfl rfl (by decide +kernel) ⟨Nat.le_of_ble_eq_true rfl, Nat.le_of_ble_eq_true rfl⟩) (hk_inV hE hP hD hS hA 6 rfl rfl [0, 1, 2] (by decide) rfl rfl) rfl rfl hl.1 rfl (lv_room (Nat.le_of_ble_eq_true rfl)) dX6_isUnordered_48 ⟨Nat.zero_le _, Nat.zero_le _⟩) hP hD hS hA [0, 1, 2] [] rfl rfl (by decide) (by decide) (fun r_8 tv H locs hr_9 hP hD hS => ?_)
                  try dsimp only at hr_9
                  have hP : va_P D vwCl [(mo, .inr (6, [.ref ms, .ref mr, .ref mk, .int (nI km), .ref mt, .int (nI ln), .int (nI sp), .int (nI rs), .int (nI ws), .ref mv, .ref me])), (ms, .inl (g.2.1, 147, .inl fs)), (mv, .inl (g.2.1, 30, .inl tv))] H := hP
                  have hD : va_D A [(mo, .inr (6, [.ref ms, .ref mr, .ref mk, .int (nI km), .ref mt, .int (nI ln), .int (nI sp), .int (nI rs), .int (nI ws), .ref mv, .ref me])), (ms, .inl (g.2.1, 147, .inl fs)), (mv, .inl (g.2.1, 30, .inl tv))] := hD
                  refine hk_ti (nI (wd (oB n ty pa pb vo (-1) i) o)) hr_9 ?_
                  refine lv_istore (lv' := [(4, .int (nI (wd (oB n ty pa pb vo (-1) i) o))), (3, .int (nI j)), (1, .int (bI b2)), (2, .int (nI i)), (0, .ref mo)]) hx hb dX6_isUnordered_51 hl (by decide) rfl (fun ls hl => ?_)
                  refine lv_aload_n hx hb dX6_isUnordered_53 rfl (lv_at hl 4 rfl) ?_
                  refine lv_iload_n hx hb dX6_isUnordered_54 rfl (lv_at hl 1 rfl) ?_
                  refine lv_iconst (v := (-1)) hx hb dX6_isUnordered_55 (by decide) ?_
                  refine hk_cmi (wr := []) (va_runV (As := [.int (nI j), .int (-1)]) (rest := []) ⟨hx, hb, hml, hown, hts⟩ (c6_told l D g ti _ mo ms mr mk mt mv me fs km ln sp rs ws tv n N o cd wt ty pa pb vo nm j (-1) hC hM (Nat.lt_trans (hk_nge i c_5 (hi := by have := pw_le hC.2.1; omega) (hn := by have := pw_le hC.2.1; omega)) (pw_64 hC.2.1 hli)) (Or.inl rfl)) (cwV 2 hts gX6_isUnordered_X6_told rfl rfl rfl (by decide +kernel) ⟨Nat.le_of_ble_eq_true rfl, Nat.le_of_ble_eq_true rfl⟩) (hk_inV hE hP hD hS hA 6 rfl rfl [0, 1, 2] (by decide) rfl rfl) rfl rfl hl.1 rfl (lv_room (Nat.le_of_ble_eq_true rfl)) dX6_isUnordered_56 ⟨Nat.zero_le _, Nat.zero_le _⟩) hP hD hS hA [0, 1, 2] [] rfl rfl (by decide) (by decide) (fun r_10 tw H locs hr_11 hP hD hS => ?_)
                  try dsimp only at hr_11
                  have hP : va_P D vwCl [(mo, .inr (6, [.ref ms, .ref mr, .ref mk, .int (nI km), .ref mt, .int (nI ln), .int (nI sp), .int (nI rs), .int (nI ws), .ref mv, .ref me])), (ms, .inl (g.2.1, 147, .inl fs)), (mv, .inl (g.2.1, 30, .inl tw))] H := hP
                  have hD : va_D A [(mo, .inr (6, [.ref ms, .ref mr, .ref mk, .int (nI km), .ref mt, .int (nI ln), .int (nI sp), .int (nI rs), .int (nI ws), .ref mv, .ref me])), (ms, .inl (g.2.1, 147, .inl fs)), (mv, .inl (g.2.1, 30, .inl tw))] := hD
                  refine hk_ti (nI (wd (oB n ty pa pb vo (-1) j) o)) hr_11 ?_
                  refine lv_istore (lv' := [(5, .int (nI (wd (oB n ty pa pb vo (-1) j) o))), (4, .int (nI (wd (oB n ty pa pb vo (-1) i) o))), (3, .int (nI j)), (1, .int (bI b2)), (2, .int (nI i)), (0, .ref mo)]) hx hb dX6_isUnordered_59 hl (by decide) rfl (fun ls hl => ?_)
                  refine lv_iload_n hx hb dX6_isUnordered_61 rfl (lv_at hl 3 rfl) ?_
                  refine lv_if_eq (tgt := 96) hx hb dX6_isUnordered_62 (by decide) (fun c_12 => ?_) (fun c_12 => ?_)
                  · have c_12h : bI b2 = (0 : Int32) := c_12
                    refine lv_iconst (v := 0) hx hb dX6_isUnordered_96 (by decide) ?_
                    refine lv_istore_n (lv' := [(1, .int 0), (5, .int (nI (wd (oB n ty pa pb vo (-1) j) o))), (4, .int (nI (wd (oB n ty pa pb vo (-1) i) o))), (3, .int (nI j)), (2, .int (nI i)), (0, .ref mo)]) hx hb dX6_isUnordered_97 rfl hl (by decide) rfl (fun ls hl => ?_)
                    refine lv_iinc (v := (nI (j + 1))) (lv' := [(3, .int (nI (j + 1))), (1, .int 0), (5, .int (nI (wd (oB n ty pa pb vo (-1) j) o))), (4, .int (nI (wd (oB n ty pa pb vo (-1) i) o))), (2, .int (nI i)), (0, .ref mo)]) hx hb dX6_isUnordered_98 hl (k := 3) rfl (nI_1 j) (by decide) rfl (fun ls hl => ?_)
                    refine lv_goto (tgt := 14) hx hb dX6_isUnordered_101 (by decide) ?_
                    have hlt : j < i := (hk_nge i c_5 (hi := by have := pw_le hC.2.1; omega) (hn := by have := pw_le hC.2.1; omega))
                    exact ih_14 (j + 1) false tw (by omega) (by omega) (bU_z hb3 (bI_0.mp c_12)) _ _ hP hD hS _ (lv_sub hl [0, 1, 4, 5] rfl)
                  · have c_12h : ¬ bI b2 = (0 : Int32) := c_12
                    refine lv_iload hx hb dX6_isUnordered_65 (lv_at hl 1 rfl) ?_
                    refine lv_iload hx hb dX6_isUnordered_67 (lv_at hl 0 rfl) ?_
                    refine lv_icmp_eq (tgt := 92) hx hb dX6_isUnordered_69 (by decide) (fun c_13 => ?_) (fun c_13 => ?_)
                    · have c_13h : nI (wd (oB n ty pa pb vo (-1) i) o) = nI (wd (oB n ty pa pb vo (-1) j) o) := c_13
                      refine lv_iconst (v := 1) hx hb dX6_isUnordered_92 (by decide) ?_
                      refine lv_goto (tgt := 97) hx hb dX6_isUnordered_93 (by decide) ?_
                      refine lv_istore_n (lv' := [(1, .int 1), (5, .int (nI (wd (oB n ty pa pb vo (-1) j) o))), (4, .int (nI (wd (oB n ty pa pb vo (-1) i) o))), (3, .int (nI j)), (2, .int (nI i)), (0, .ref mo)]) hx hb dX6_isUnordered_97 rfl hl (by decide) rfl (fun ls hl => ?_)
                      refine lv_iinc (v := (nI (j + 1))) (lv' := [(3, .int (nI (j + 1))), (1, .int 1), (5, .int (nI (wd (oB n ty pa pb vo (-1) j) o))), (4, .int (nI (wd (oB n ty pa pb vo (-1) i) o))), (2, .int (nI i)), (0, .ref mo)]) hx hb dX6_isUnordered_98 hl (k := 3) rfl (nI_1 j) (by decide) rfl (fun ls hl => ?_)
                      refine lv_goto (tgt := 14) hx hb dX6_isUnordered_101 (by decide) ?_
                      have hlt : j < i := (hk_nge i c_5 (hi := by have := pw_le hC.2.1; omega) (hn := by have := pw_le hC.2.1; omega))
                      exact ih_14 (j + 1) true tw (by omega) (by omega) (bI_n0 c_12 ▸ bU_t hb3 (fun _ _ => Or.inl (nI_inj c_13 (wd_31 hC.2.2.2.2.1) (wd_31 hC.2.2.2.2.1)))) _ _ hP hD hS _ (lv_sub hl [0, 1, 4, 5] rfl)
                    · have c_13h : ¬ nI (wd (oB n ty pa pb vo (-1) i) o) = nI (wd (oB n ty pa pb vo (-1) j) o) := c_13
                      refine lv_iload hx hb dX6_isUnordered_72 (lv_at hl 1 rfl) ?_
                      refine lv_iload hx hb dX6_isUnordered_74 (lv_at hl 0 rfl) ?_
                      refine lv_iconst (v := (-1)) hx hb dX6_isUnordered_76 (by decide) ?_
                      refine lv_ixor hx hb dX6_isUnordered_77 ?_
                      refine lv_iand hx hb dX6_isUnordered_78 ?_
                      refine lv_if_eq (tgt := 96) hx hb dX6_isUnordered_79 (by decide) (fun c_14 => ?_) (fun c_14 => ?_)
                      · have c_14h : (nI (wd (oB n ty pa pb vo (-1) i) o) &&& (nI (wd (oB n ty pa pb vo (-1) j) o) ^^^ (-1 : Int32))) = (0 : Int32) := c_14
                        refine lv_iconst (v := 0) hx hb dX6_isUnordered_96 (by decide) ?_
                        refine lv_istore_n (lv' := [(1, .int 0), (5, .int (nI (wd (oB n ty pa pb vo (-1) j) o))), (4, .int (nI (wd (oB n ty pa pb vo (-1) i) o))), (3, .int (nI j)), (2, .int (nI i)), (0, .ref mo)]) hx hb dX6_isUnordered_97 rfl hl (by decide) rfl (fun ls hl => ?_)
                        refine lv_iinc (v := (nI (j + 1))) (lv' := [(3, .int (nI (j + 1))), (1, .int 0), (5, .int (nI (wd (oB n ty pa pb vo (-1) j) o))), (4, .int (nI (wd (oB n ty pa pb vo (-1) i) o))), (2, .int (nI i)), (0, .ref mo)]) hx hb dX6_isUnordered_98 hl (k := 3) rfl (nI_1 j) (by decide) rfl (fun ls hl => ?_)
                        refine lv_goto (tgt := 14) hx hb dX6_isUnordered_101 (by decide) ?_
                        have hlt : j < i := (hk_nge i c_5 (hi := by have := pw_le hC.2.1; omega) (hn := by have := pw_le hC.2.1; omega))
                        exact ih_14 (j + 1) false tw (by omega) (by omega) (bU_f (fun q => (q (bI_1.mp c_6) (bI_1.mp c_7)).elim (fun e => c_13 (congrArg nI e)) (fun e => absurd (decide_eq_true c_14) (by have e9 := e.1; unfold cov at e9; rw [e9]; decide)))) _ _ hP hD hS _ (lv_sub hl [0, 1, 4, 5] rfl)
                      · have c_14h : ¬ (nI (wd (oB n ty pa pb vo (-1) i) o) &&& (nI (wd (oB n ty pa pb vo (-1) j) o) ^^^ (-1 : Int32))) = (0 : Int32) := c_14
                        refine lv_iload hx hb dX6_isUnordered_82 (lv_at hl 0 rfl) ?_
                        refine lv_iload hx hb dX6_isUnordered_84 (lv_at hl 1 rfl) ?_
                        refine lv_iconst (v := (-1)) hx hb dX6_isUnordered_86 (by decide) ?_
                        refine lv_ixor hx hb dX6_isUnordered_87 ?_
                        refine lv_iand hx hb dX6_isUnordered_88 ?_
                        refine lv_if_eq (tgt := 96) hx hb dX6_isUnordered_89 (by decide) (fun c_15 => ?_) (fun c_15 => ?_)
                        · have c_15h : (nI (wd (oB n ty pa pb vo (-1) j) o) &&& (nI (wd (oB n ty pa pb vo (-1) i) o) ^^^ (-1 : Int32))) = (0 : Int32) := c_15
                          refine lv_iconst (v := 0) hx hb dX6_isUnordered_96 (by decide) ?_
                          refine lv_istore_n (lv' := [(1, .int 0), (5, .int (nI (wd (oB n ty pa pb vo (-1) j) o))), (4, .int (nI (wd (oB n ty pa pb vo (-1) i) o))), (3, .int (nI j)), (2, .int (nI i)), (0, .ref mo)]) hx hb dX6_isUnordered_97 rfl hl (by decide) rfl (fun ls hl => ?_)
                          refine lv_iinc (v := (nI (j + 1))) (lv' := [(3, .int (nI (j + 1))), (1, .int 0), (5, .int (nI (wd (oB n ty pa pb vo (-1) j) o))), (4, .int (nI (wd (oB n ty pa pb vo (-1) i) o))), (2, .int (nI i)), (0, .ref mo)]) hx hb dX6_isUnordered_98 hl (k := 3) rfl (nI_1 j) (by decide) rfl (fun ls hl => ?_)
                          refine lv_goto (tgt := 14) hx hb dX6_isUnordered_101 (by decide) ?_
                          have hlt : j < i := (hk_nge i c_5 (hi := by have := pw_le hC.2.1; omega) (hn := by have := pw_le hC.2.1; omega))
                          exact ih_14 (j + 1) false tw (by omega) (by omega) (bU_f (fun q => (q (bI_1.mp c_6) (bI_1.mp c_7)).elim (fun e => c_13 (congrArg nI e)) (fun e => absurd (decide_eq_true c_15) (by have e9 := e.2; unfold cov at e9; rw [e9]; decide)))) _ _ hP hD hS _ (lv_sub hl [0, 1, 4, 5] rfl)
                        · have c_15h : ¬ (nI (wd (oB n ty pa pb vo (-1) j) o) &&& (nI (wd (oB n ty pa pb vo (-1) i) o) ^^^ (-1 : Int32))) = (0 : Int32) := c_15
                          refine lv_iconst (v := 1) hx hb dX6_isUnordered_92 (by decide) ?_
                          refine lv_goto (tgt := 97) hx hb dX6_isUnordered_93 (by decide) ?_
                          refine lv_istore_n (lv' := [(1, .int 1), (5, .int (nI (wd (oB n ty pa pb vo (-1) j) o))), (4, .int (nI (wd (oB n ty pa pb vo (-1) i) o))), (3, .int (nI j)), (2, .int (nI i)), (0, .ref mo)]) hx hb dX6_isUnordered_97 rfl hl (by decide) rfl (fun ls hl => ?_)
                          refine lv_iinc (v := (nI (j + 1))) (lv' := [(3, .int (nI (j + 1))), (1, .int 1), (5, .int (nI (wd (oB n ty pa pb vo (-1) j) o))), (4, .int (nI (wd (oB n ty pa pb vo (-1) i) o))), (2, .int (nI i)), (0, .ref mo)]) hx hb dX6_isUnordered_98 hl (k := 3) rfl (nI_1 j) (by decide) rfl (fun ls hl => ?_)
                          refine lv_goto (tgt := 14) hx hb dX6_isUnordered_101 (by decide) ?_
                          have hlt : j < i := (hk_nge i c_5 (hi := by have := pw_le hC.2.1; omega) (hn := by have := pw_le hC.2.1; omega))
                          exact ih_14 (j + 1) true tw (by omega) (by omega) (bI_n0 c_12 ▸ bU_t hb3 (fun _ _ => Or.inr ⟨decide_eq_false c_14, decide_eq_false c_15⟩)) _ _ hP hD hS _ (lv_sub hl [0, 1, 4, 5] rfl)
        exact loop14 _ 0 b gv (Nat.lt_succ_self _) (Nat.zero_le _) (bU_0 hb2) _ _ hP hD hS _ (lv_sub hl [0, 2, 1, 3] rfl)
  exact loop4 _ 0 true fv (Nat.lt_succ_self _) (Nat.zero_le _) (⟨fun _ _ h => absurd h (Nat.not_lt_zero _), fun _ => rfl⟩) _ _ hP hD hS _ (lv_sub hl [0, 1, 2] rfl)
