def gU (f : Nat → Int32) (G : Nat) (y a b : Int32) : Nat → Int32 := upd (upd (upd (upd f (2 + 3 * G) y) (2 + 3 * G + 1) a) (2 + 3 * G + 2) b) 1 (nI (G + 1))
theorem gU_0 {f : Nat → Int32} {G : Nat} {y a b : Int32} : gU f G y a b 0 = f 0 := by
  unfold gU; rw [pk_un (by omega), pk_un (by omega), pk_un (by omega), pk_un (by omega)]
theorem gU_1 {f : Nat → Int32} {G : Nat} {y a b : Int32} : gU f G y a b 1 = nI (G + 1) := by unfold gU; exact pk_us
/-- what is kept behind an edit -/
def KP (fk fs f : Nat → Int32) (km : Nat) : Prop := (km < 5 → (∀ j, j < 147 * km → f j = fk j) ∧ ∀ j, j < 147 → f (147 * km + j) = fs j) ∧ (km = 5 → (∀ j, j < 588 → f j = fk (147 + j)) ∧ ∀ j, j < 147 → f (588 + j) = fs j)
set_option maxHeartbeats 4000000 in
set_option maxRecDepth 100000 in
theorem c6_gate (l : Launch) (D : va_G) (g : hk_G) (ti : Nat) (sz : Nat) (ar : Nat) (f : Nat → Int32) (y : Int32) (p1 : Int32) (p2 : Int32) (G : Nat) (hg1 : f 1 = nI G) (hG : G < 24) : Met l yX6_gate wsX6_gate ({ frames := 0, cells := 0, slots := 0, locals := 0 }) (va_Pc [.ref ar, .int y, .int p1, .int p2] (hk_In D g ti [(ar, .inl (g.2.1, 147, .inl f))] sz)) (va_Qv (S := Unit) (fun _ => True) (fun u => hk_Out D (va_A [(ar, .inl (g.2.1, 147, .inl f))] sz) (match u with | _ => [(ar, .inl (g.2.1, 147, .inl (gU f G y p1 p2)))])) (va_A [(ar, .inl (g.2.1, 147, .inl f))] sz)) 0 0 (va_A [(ar, .inl (g.2.1, 147, .inl f))] sz) := by
  refine Met.ofW (cc := cX6_gate) (maxL := 5) (ret := none) (by decide) rfl ?_
  intro p e s m args below meth c s₁ Bd hml hv
  obtain ⟨rfl, hsz, hP, hD0, hE⟩ := hv
  have hx := Bd.exec
  have hb := Bd.bytes
  have hr := Bd.returns
  have hts := atoms_spec (ws := wsX6_gate) Bd.pre
  have hown : s.vm.findClass RX6 = some m.cls := findClass_of_methodNamed Bd.named
  have hlocks := Bd.notSynchronized
  have hK := hE.1
  subst hsz
  have hD := hD0.self (sz := s.heap.size)
  generalize hAe : va_A [(ar, .inl (g.2.1, 147, .inl f))] s.heap.size = A at hD hE ⊢
  have hA : ∀ q : Nat, s.heap.size ≤ q → A q := fun q h => by rw [← hAe]; exact Or.inr h
  have hS : va_S A s.heap s.heap [] := va_S.rf
  have hl := lv_entry ([.ref ar, .int y, .int p1, .int p2]) (n := 5) (Nat.le_of_ble_eq_true rfl)
  rw [lg_entry_eq]
  generalize (lg_sl ([.ref ar, .int y, .int p1, .int p2]) ++ List.replicate (5 - (lg_sl ([.ref ar, .int y, .int p1, .int p2])).length) Slot.unset).toArray = ls at hl ⊢
  have hl : lv_has ls 5 [(0, .ref ar), (1, .int y), (2, .int p1), (3, .int p2)] := hl
  refine lv_iconst (v := 2) hx hb dX6_gate_0 (by decide) ?_
  refine lv_iconst (v := 3) hx hb dX6_gate_1 (by decide) ?_
  refine lv_aload_n hx hb dX6_gate_2 rfl (lv_at hl 0 rfl) ?_
  refine lv_iconst (v := 1) hx hb dX6_gate_3 (by decide) ?_
  refine va_iald hx hb hK hP 0 1 rfl rfl (by unfold vp_in; decide) dX6_gate_4 ?_
  refine hk_ti (f 1) (congrArg f (by decide)) ?_
  refine hk_ti (nI G) (hg1) ?_
  refine lv_imul hx hb dX6_gate_5 ?_
  refine lv_iadd hx hb dX6_gate_6 ?_
  refine hk_ti (nI (2 + 3 * G)) (mix (a := 0) rfl) ?_
  refine lv_istore (lv' := [(4, .int (nI (2 + 3 * G))), (0, .ref ar), (1, .int y), (2, .int p1), (3, .int p2)]) hx hb dX6_gate_7 hl (by decide) rfl (fun ls hl => ?_)
  refine lv_aload_n hx hb dX6_gate_9 rfl (lv_at hl 1 rfl) ?_
  refine lv_iload hx hb dX6_gate_10 (lv_at hl 0 rfl) ?_
  refine lv_iload_n hx hb dX6_gate_12 rfl (lv_at hl 2 rfl) ?_
  refine va_iast hx hb hK hP hD hS 0 1 rfl rfl (vp_in_nI (N := 147) (by omega) (by decide)) dX6_gate_13 (fun H locs hP hD hS => ?_)
  rw [show (nI (2 + 3 * G)).toNatClampNeg = 2 + 3 * G from nI_clamp (by omega)] at hP hD
  have hP : va_P D vwCl [(ar, .inl (g.2.1, 147, .inl (upd f (2 + 3 * G) y)))] H := hP
  have hD : va_D A [(ar, .inl (g.2.1, 147, .inl (upd f (2 + 3 * G) y)))] := hD
  refine lv_aload_n hx hb dX6_gate_14 rfl (lv_at hl 1 rfl) ?_
  refine lv_iload hx hb dX6_gate_15 (lv_at hl 0 rfl) ?_
  refine lv_iconst (v := 1) hx hb dX6_gate_17 (by decide) ?_
  refine lv_iadd hx hb dX6_gate_18 ?_
  refine hk_ti (nI (2 + 3 * G + 1)) (nI_1 _) ?_
  refine lv_iload_n hx hb dX6_gate_19 rfl (lv_at hl 3 rfl) ?_
  refine va_iast hx hb hK hP hD hS 0 1 rfl rfl (vp_in_nI (N := 147) (by omega) (by decide)) dX6_gate_20 (fun H locs hP hD hS => ?_)
  rw [show (nI (2 + 3 * G + 1)).toNatClampNeg = 2 + 3 * G + 1 from nI_clamp (by omega)] at hP hD
  have hP : va_P D vwCl [(ar, .inl (g.2.1, 147, .inl (upd (upd f (2 + 3 * G) y) (2 + 3 * G + 1) p1)))] H := hP
  have hD : va_D A [(ar, .inl (g.2.1, 147, .inl (upd (upd f (2 + 3 * G) y) (2 + 3 * G + 1) p1)))] := hD
  refine lv_aload_n hx hb dX6_gate_21 rfl (lv_at hl 1 rfl) ?_
  refine lv_iload hx hb dX6_gate_22 (lv_at hl 0 rfl) ?_
  refine lv_iconst (v := 2) hx hb dX6_gate_24 (by decide) ?_
  refine lv_iadd hx hb dX6_gate_25 ?_
  refine hk_ti (nI (2 + 3 * G + 2)) (nI_add _ 2) ?_
  refine lv_iload_n hx hb dX6_gate_26 rfl (lv_at hl 4 rfl) ?_
  refine va_iast hx hb hK hP hD hS 0 1 rfl rfl (vp_in_nI (N := 147) (by omega) (by decide)) dX6_gate_27 (fun H locs hP hD hS => ?_)
  rw [show (nI (2 + 3 * G + 2)).toNatClampNeg = 2 + 3 * G + 2 from nI_clamp (by omega)] at hP hD
  have hP : va_P D vwCl [(ar, .inl (g.2.1, 147, .inl (upd (upd (upd f (2 + 3 * G) y) (2 + 3 * G + 1) p1) (2 + 3 * G + 2) p2)))] H := hP
  have hD : va_D A [(ar, .inl (g.2.1, 147, .inl (upd (upd (upd f (2 + 3 * G) y) (2 + 3 * G + 1) p1) (2 + 3 * G + 2) p2)))] := hD
  refine lv_aload_n hx hb dX6_gate_28 rfl (lv_at hl 1 rfl) ?_
  refine lv_iconst (v := 1) hx hb dX6_gate_29 (by decide) ?_
  refine lv_dup2_11 hx hb dX6_gate_30 rfl rfl ?_
  refine va_iald hx hb hK hP 0 1 rfl rfl (by unfold vp_in; decide) dX6_gate_31 ?_
  refine hk_ti ((upd (upd (upd f (2 + 3 * G) y) (2 + 3 * G + 1) p1) (2 + 3 * G + 2) p2) 1) (congrArg (upd (upd (upd f (2 + 3 * G) y) (2 + 3 * G + 1) p1) (2 + 3 * G + 2) p2) (by decide)) ?_
  refine hk_ti (nI G) (by rw [pk_un (by omega), pk_un (by omega), pk_un (by omega)]; exact hg1) ?_
  refine lv_iconst (v := 1) hx hb dX6_gate_32 (by decide) ?_
  refine lv_iadd hx hb dX6_gate_33 ?_
  refine hk_ti (nI (G + 1)) (nI_1 G) ?_
  refine va_iast hx hb hK hP hD hS 0 1 rfl rfl (by unfold vp_in; decide) dX6_gate_34 (fun H locs hP hD hS => ?_)
  rw [show (1 : Int32).toNatClampNeg = 1 from by decide] at hP hD
  have hP : va_P D vwCl [(ar, .inl (g.2.1, 147, .inl (upd (upd (upd (upd f (2 + 3 * G) y) (2 + 3 * G + 1) p1) (2 + 3 * G + 2) p2) 1 (nI (G + 1)))))] H := hP
  have hD : va_D A [(ar, .inl (g.2.1, 147, .inl (upd (upd (upd (upd f (2 + 3 * G) y) (2 + 3 * G + 1) p1) (2 + 3 * G + 2) p2) 1 (nI (G + 1)))))] := hD
  have hP9 := hP.sub (ws' := [(ar, .inl (g.2.1, 147, .inl (gU f G y p1 p2)))]) [0] rfl
  have hD9 := hD.sub (ws' := [(ar, .inl (g.2.1, 147, .inl (gU f G y p1 p2)))]) [0] (by decide) rfl
  exact W.vret hx hb hr (fun tt ht hW => ⟨⟨(), rfl, trivial, by rw [ht]; exact hP9, hD9⟩, hS.F ht⟩) hS.2.2 dX6_gate_35
set_option maxHeartbeats 4000000 in
set_option maxRecDepth 100000 in
theorem c6_keeps (l : Launch) (D : va_G) (g : hk_G) (ti : Nat) (sz : Nat) (mo : Nat) (ms : Nat) (mr : Nat) (mk : Nat) (mt : Nat) (mv : Nat) (me : Nat) (fs : Nat → Int32) (km : Nat) (ln : Nat) (sp : Nat) (rs : Nat) (ws : Nat) (fk : Nat → Int32) (hkm : km ≤ 5) : Met l yX6_keeps wsX6_keeps ({ frames := 0, cells := 0, slots := 0, locals := 0 }) (va_Pc [.ref mo] (hk_In D g ti [(mo, .inr (6, [.ref ms, .ref mr, .ref mk, .int (nI km), .ref mt, .int (nI ln), .int (nI sp), .int (nI rs), .int (nI ws), .ref mv, .ref me])), (ms, .inl (g.2.1, 147, .inl fs)), (mk, .inl (g.2.1, 735, .inl fk))] sz)) (va_Qv (S := Nat → Int32) (fun f' => KP fk fs f' km) (fun u => hk_Out D (va_A [(mo, .inr (6, [.ref ms, .ref mr, .ref mk, .int (nI km), .ref mt, .int (nI ln), .int (nI sp), .int (nI rs), .int (nI ws), .ref mv, .ref me])), (ms, .inl (g.2.1, 147, .inl fs)), (mk, .inl (g.2.1, 735, .inl fk))] sz) (match u with | f' => [(mo, .inr (6, [.ref ms, .ref mr, .ref mk, .int (nI (min (km + 1) 5)), .ref mt, .int (nI ln), .int (nI sp), .int (nI rs), .int (nI ws), .ref mv, .ref me])), (ms, .inl (g.2.1, 147, .inl fs)), (mk, .inl (g.2.1, 735, .inl f'))])) (va_A [(mo, .inr (6, [.ref ms, .ref mr, .ref mk, .int (nI km), .ref mt, .int (nI ln), .int (nI sp), .int (nI rs), .int (nI ws), .ref mv, .ref me])), (ms, .inl (g.2.1, 147, .inl fs)), (mk, .inl (g.2.1, 735, .inl fk))] sz)) 0 0 (va_A [(mo, .inr (6, [.ref ms, .ref mr, .ref mk, .int (nI km), .ref mt, .int (nI ln), .int (nI sp), .int (nI rs), .int (nI ws), .ref mv, .ref me])), (ms, .inl (g.2.1, 147, .inl fs)), (mk, .inl (g.2.1, 735, .inl fk))] sz) := by
  refine Met.ofW (cc := cX6_keeps) (maxL := 2) (ret := none) (by decide) rfl ?_
  intro p e s m args below meth c s₁ Bd hml hv
  obtain ⟨rfl, hsz, hP, hD0, hE⟩ := hv
  have hx := Bd.exec
  have hb := Bd.bytes
  have hr := Bd.returns
  have hts := atoms_spec (ws := wsX6_keeps) Bd.pre
  have hown : s.vm.findClass RX6 = some m.cls := findClass_of_methodNamed Bd.named
  have hlocks := Bd.notSynchronized
  have hK := hE.1
  have hi6 : ∀ w ∈ wsX60, w ∈ wsX6_keeps := fun w h => List.mem_cons_of_mem _ (List.mem_append_right _ h)
  subst hsz
  have hD := hD0.self (sz := s.heap.size)
  generalize hAe : va_A [(mo, .inr (6, [.ref ms, .ref mr, .ref mk, .int (nI km), .ref mt, .int (nI ln), .int (nI sp), .int (nI rs), .int (nI ws), .ref mv, .ref me])), (ms, .inl (g.2.1, 147, .inl fs)), (mk, .inl (g.2.1, 735, .inl fk))] s.heap.size = A at hD hE ⊢
  have hA : ∀ q : Nat, s.heap.size ≤ q → A q := fun q h => by rw [← hAe]; exact Or.inr h
  have hS : va_S A s.heap s.heap [] := va_S.rf
  have hl := lv_entry ([.ref mo]) (n := 2) (Nat.le_of_ble_eq_true rfl)
  rw [lg_entry_eq]
  generalize (lg_sl ([.ref mo]) ++ List.replicate (2 - (lg_sl ([.ref mo])).length) Slot.unset).toArray = ls at hl ⊢
  have hl : lv_has ls 2 [(0, .ref mo)] := hl
  refine lv_aload_n hx hb dX6_keeps_0 rfl (lv_at hl 0 rfl) ?_
  refine va_get (D := D) (ci := 6) (v := .int (nI km)) (C := RX6) (T := TX6) (N := 11) hx hb hts hi6 hown hK hP 0 rfl rfl 3 (by decide) (hts (.fieldLink RX6 95 "SelfCheckingCircuitModel" "keptMany" "I") (by decide +kernel)) (fun _ h9 => h9) rfl dX6_keeps_1 ?_
  refine lv_iconst (v := 5) hx hb dX6_keeps_4 (by decide) ?_
  refine lv_icmp_ne (tgt := 49) hx hb dX6_keeps_5 (by decide) (fun c_1 => ?_) (fun c_1 => ?_)
  · have c_1h : ¬ nI km = (5 : Int32) := c_1
    refine lv_iconst (v := 0) hx hb dX6_keeps_49 (by decide) ?_
    refine lv_istore_n (lv' := [(1, .int 0), (0, .ref mo)]) hx hb dX6_keeps_50 rfl hl (by decide) rfl (fun ls hl => ?_)
    have loop51 : ∀ (fuel : Nat) (i2 : Nat) (gk2 : Nat → Int32), (147 - i2) < fuel → (i2 ≤ 147) → (∀ j, j < 147 * km → gk2 j = fk j) → (∀ j, j < i2 → gk2 (147 * km + j) = fs j) → ∀ (H : Heap) (locs : List Loc), va_P D vwCl [(mo, .inr (6, [.ref ms, .ref mr, .ref mk, .int (nI km), .ref mt, .int (nI ln), .int (nI sp), .int (nI rs), .int (nI ws), .ref mv, .ref me])), (ms, .inl (g.2.1, 147, .inl fs)), (mk, .inl (g.2.1, 735, .inl gk2))] H → va_D A [(mo, .inr (6, [.ref ms, .ref mr, .ref mk, .int (nI km), .ref mt, .int (nI ln), .int (nI sp), .int (nI rs), .int (nI ws), .ref mv, .ref me])), (ms, .inl (g.2.1, 147, .inl fs)), (mk, .inl (g.2.1, 735, .inl gk2))] → va_S A s.heap H locs → ∀ ls : Array Slot, lv_has ls 2 [(1, .int (nI i2)), (0, .ref mo)] → W p l e (headSpec wsX6_keeps ({ frames := 0, cells := 0, slots := 0, locals := 0 })).room s m ([.ref mo] : List Value).toArray below meth c H locs 0 0 (MQ below (va_Qv (S := Nat → Int32) (fun f' => KP fk fs f' km) (fun u => hk_Out D A (match u with | f' => [(mo, .inr (6, [.ref ms, .ref mr, .ref mk, .int (nI (min (km + 1) 5)), .ref mt, .int (nI ln), .int (nI sp), .int (nI rs), .int (nI ws), .ref mv, .ref me])), (ms, .inl (g.2.1, 147, .inl fs)), (mk, .inl (g.2.1, 735, .inl f'))])) A) ([.ref mo] : List Value).toArray s 0 0 A) (F0 m 51 ls []) := by
      intro fuel
      induction fuel with
      | zero => intro i2 gk2 hm; exact absurd hm (Nat.not_lt_zero _)
      | succ fuel ih_51 =>
        intro i2 gk2 hm_51 hi2 hc hd2 H locs hP hD hS ls hl
        refine lv_iload_n hx hb dX6_keeps_51 rfl (lv_at hl 0 rfl) ?_
        refine lv_sipush (v := 147) hx hb dX6_keeps_52 (by decide) ?_
        refine lv_icmp_ge (tgt := 85) hx hb dX6_keeps_55 (by decide) (fun c_2 => ?_) (fun c_2 => ?_)
        · have c_2h : (147 : Int32) ≤ nI i2 := c_2
          refine lv_aload_n hx hb dX6_keeps_85 rfl (lv_at hl 1 rfl) ?_
          refine lv_dup hx hb dX6_keeps_86 rfl ?_
          refine va_get (D := D) (ci := 6) (v := .int (nI km)) (C := RX6) (T := TX6) (N := 11) hx hb hts hi6 hown hK hP 0 rfl rfl 3 (by decide) (hts (.fieldLink RX6 95 "SelfCheckingCircuitModel" "keptMany" "I") (by decide +kernel)) (fun _ h9 => h9) rfl dX6_keeps_87 ?_
          refine lv_iconst (v := 1) hx hb dX6_keeps_90 (by decide) ?_
          refine lv_iadd hx hb dX6_keeps_91 ?_
          refine hk_ti (nI (min (km + 1) 5)) (by rw [Nat.min_eq_left (by have := (show km < 5 by have h9 : ¬ km = 5 := fun q => c_1 (by rw [q]; rfl); omega); omega)]; exact nI_1 km) ?_
          refine va_put (D := D) (ci := 6) (v := .int (nI (min (km + 1) 5))) (ty := .int) (C := RX6) (T := TX6) (N := 11) hx hb hts hi6 tyX6 tyX6_ok nmX6 hown hK hP hD hS 0 rfl rfl 3 (by decide) (hts (.fieldLink RX6 95 "SelfCheckingCircuitModel" "keptMany" "I") (by decide +kernel)) (fun _ h9 => h9) rfl (by decide +kernel) rfl rfl (Nat.le_of_ble_eq_true rfl) dX6_keeps_92 (fun H locs hP hD hS => ?_)
          have hP : va_P D vwCl [(mo, .inr (6, [.ref ms, .ref mr, .ref mk, .int (nI (min (km + 1) 5)), .ref mt, .int (nI ln), .int (nI sp), .int (nI rs), .int (nI ws), .ref mv, .ref me])), (ms, .inl (g.2.1, 147, .inl fs)), (mk, .inl (g.2.1, 735, .inl gk2))] H := hP
          have hD : va_D A [(mo, .inr (6, [.ref ms, .ref mr, .ref mk, .int (nI (min (km + 1) 5)), .ref mt, .int (nI ln), .int (nI sp), .int (nI rs), .int (nI ws), .ref mv, .ref me])), (ms, .inl (g.2.1, 147, .inl fs)), (mk, .inl (g.2.1, 735, .inl gk2))] := hD
          have hP9 := hP.sub (ws' := [(mo, .inr (6, [.ref ms, .ref mr, .ref mk, .int (nI (min (km + 1) 5)), .ref mt, .int (nI ln), .int (nI sp), .int (nI rs), .int (nI ws), .ref mv, .ref me])), (ms, .inl (g.2.1, 147, .inl fs)), (mk, .inl (g.2.1, 735, .inl gk2))]) [0, 1, 2] rfl
          have hD9 := hD.sub (ws' := [(mo, .inr (6, [.ref ms, .ref mr, .ref mk, .int (nI (min (km + 1) 5)), .ref mt, .int (nI ln), .int (nI sp), .int (nI rs), .int (nI ws), .ref mv, .ref me])), (ms, .inl (g.2.1, 147, .inl fs)), (mk, .inl (g.2.1, 735, .inl gk2))]) [0, 1, 2] (by decide) rfl
          exact W.vret hx hb hr (fun tt ht hW => ⟨⟨gk2, rfl, ⟨fun _ => ⟨hc, (show i2 = 147 by have := hk_ge 147 c_2; omega) ▸ hd2⟩, fun q => absurd (by rw [q]; rfl) c_1⟩, by rw [ht]; exact hP9, hD9⟩, hS.F ht⟩) hS.2.2 dX6_keeps_95
        · have c_2h : ¬ (147 : Int32) ≤ nI i2 := c_2
          refine lv_aload_n hx hb dX6_keeps_58 rfl (lv_at hl 1 rfl) ?_
          refine va_get (D := D) (ci := 6) (v := .ref mk) (C := RX6) (T := TX6) (N := 11) hx hb hts hi6 hown hK hP 0 rfl rfl 2 (by decide) (hts (.fieldLink RX6 16 "SelfCheckingCircuitModel" "kept" "[I") (by decide +kernel)) (fun _ h9 => h9) rfl dX6_keeps_59 ?_
          refine lv_sipush (v := 147) hx hb dX6_keeps_62 (by decide) ?_
          refine lv_aload_n hx hb dX6_keeps_65 rfl (lv_at hl 1 rfl) ?_
          refine va_get (D := D) (ci := 6) (v := .int (nI km)) (C := RX6) (T := TX6) (N := 11) hx hb hts hi6 hown hK hP 0 rfl rfl 3 (by decide) (hts (.fieldLink RX6 95 "SelfCheckingCircuitModel" "keptMany" "I") (by decide +kernel)) (fun _ h9 => h9) rfl dX6_keeps_66 ?_
          refine lv_imul hx hb dX6_keeps_69 ?_
          refine lv_iload_n hx hb dX6_keeps_70 rfl (lv_at hl 0 rfl) ?_
          refine lv_iadd hx hb dX6_keeps_71 ?_
          refine hk_ti (nI (147 * km + i2)) (by rw [show (147 : Int32) * nI km = nI (147 * km) from pk_mul 147 km]; exact nI_add _ i2) ?_
          refine lv_aload_n hx hb dX6_keeps_72 rfl (lv_at hl 1 rfl) ?_
          refine va_get (D := D) (ci := 6) (v := .ref ms) (C := RX6) (T := TX6) (N := 11) hx hb hts hi6 hown hK hP 0 rfl rfl 0 (by decide) (hts (.fieldLink RX6 7 "SelfCheckingCircuitModel" "s" "[I") (by decide +kernel)) (fun _ h9 => h9) rfl dX6_keeps_73 ?_
          refine lv_iload_n hx hb dX6_keeps_76 rfl (lv_at hl 0 rfl) ?_
          refine va_iald hx hb hK hP 1 1 rfl rfl (vp_in_nI (N := 147) (hk_nge 147 c_2) (by decide)) dX6_keeps_77 ?_
          refine hk_ti (fs i2) (congrArg fs (nI_clamp (by omega))) ?_
          refine va_iast hx hb hK hP hD hS 2 1 rfl rfl (vp_in_nI (N := 735) (by have := hk_nge 147 c_2; have := (show km < 5 by have h9 : ¬ km = 5 := fun q => c_1 (by rw [q]; rfl); omega); omega) (by decide)) dX6_keeps_78 (fun H locs hP hD hS => ?_)
          rw [show (nI (147 * km + i2)).toNatClampNeg = 147 * km + i2 from nI_clamp (by omega)] at hP hD
          have hP : va_P D vwCl [(mo, .inr (6, [.ref ms, .ref mr, .ref mk, .int (nI km), .ref mt, .int (nI ln), .int (nI sp), .int (nI rs), .int (nI ws), .ref mv, .ref me])), (ms, .inl (g.2.1, 147, .inl fs)), (mk, .inl (g.2.1, 735, .inl (upd gk2 (147 * km + i2) (fs i2))))] H := hP
          have hD : va_D A [(mo, .inr (6, [.ref ms, .ref mr, .ref mk, .int (nI km), .ref mt, .int (nI ln), .int (nI sp), .int (nI rs), .int (nI ws), .ref mv, .ref me])), (ms, .inl (g.2.1, 147, .inl fs)), (mk, .inl (g.2.1, 735, .inl (upd gk2 (147 * km + i2) (fs i2))))] := hD
          refine lv_iinc (v := (nI (i2 + 1))) (lv' := [(1, .int (nI (i2 + 1))), (0, .ref mo)]) hx hb dX6_keeps_79 hl (k := 0) rfl (nI_1 i2) (by decide) rfl (fun ls hl => ?_)
          refine lv_goto (tgt := 51) hx hb dX6_keeps_82 (by decide) ?_
          have hlt : i2 < 147 := hk_nge 147 c_2
          exact ih_51 (i2 + 1) (upd gk2 (147 * km + i2) (fs i2)) (by omega) (by omega) (fun j hj => by rw [pk_un (by omega)]; exact hc j hj) (fun j hj => (Nat.lt_succ_iff_lt_or_eq.mp hj).elim (fun q => by rw [pk_un (by omega)]; exact hd2 j q) (fun q => by rw [q]; exact pk_us)) _ _ hP hD hS _ (lv_sub hl [0, 1] rfl)
    exact loop51 _ 0 fk (Nat.lt_succ_self _) (Nat.zero_le _) (fun _ _ => rfl) (fun _ h => absurd h (Nat.not_lt_zero _)) _ _ hP hD hS _ (lv_sub hl [0, 1] rfl)
  · have c_1h : nI km = (5 : Int32) := c_1
    refine lv_iconst (v := 0) hx hb dX6_keeps_8 (by decide) ?_
    refine lv_istore_n (lv' := [(1, .int 0), (0, .ref mo)]) hx hb dX6_keeps_9 rfl hl (by decide) rfl (fun ls hl => ?_)
    have loop10 : ∀ (fuel : Nat) (i : Nat) (gk : Nat → Int32), (588 - i) < fuel → (i ≤ 588) → (∀ j, j < i → gk j = fk (147 + j)) → (∀ j, i ≤ j → gk j = fk j) → ∀ (H : Heap) (locs : List Loc), va_P D vwCl [(mo, .inr (6, [.ref ms, .ref mr, .ref mk, .int (nI km), .ref mt, .int (nI ln), .int (nI sp), .int (nI rs), .int (nI ws), .ref mv, .ref me])), (ms, .inl (g.2.1, 147, .inl fs)), (mk, .inl (g.2.1, 735, .inl gk))] H → va_D A [(mo, .inr (6, [.ref ms, .ref mr, .ref mk, .int (nI km), .ref mt, .int (nI ln), .int (nI sp), .int (nI rs), .int (nI ws), .ref mv, .ref me])), (ms, .inl (g.2.1, 147, .inl fs)), (mk, .inl (g.2.1, 735, .inl gk))] → va_S A s.heap H locs → ∀ ls : Array Slot, lv_has ls 2 [(1, .int (nI i)), (0, .ref mo)] → W p l e (headSpec wsX6_keeps ({ frames := 0, cells := 0, slots := 0, locals := 0 })).room s m ([.ref mo] : List Value).toArray below meth c H locs 0 0 (MQ below (va_Qv (S := Nat → Int32) (fun f' => KP fk fs f' km) (fun u => hk_Out D A (match u with | f' => [(mo, .inr (6, [.ref ms, .ref mr, .ref mk, .int (nI (min (km + 1) 5)), .ref mt, .int (nI ln), .int (nI sp), .int (nI rs), .int (nI ws), .ref mv, .ref me])), (ms, .inl (g.2.1, 147, .inl fs)), (mk, .inl (g.2.1, 735, .inl f'))])) A) ([.ref mo] : List Value).toArray s 0 0 A) (F0 m 10 ls []) := by
      intro fuel
      induction fuel with
      | zero => intro i gk hm; exact absurd hm (Nat.not_lt_zero _)
      | succ fuel ih_10 =>
        intro i gk hm_10 hi ha hb4 H locs hP hD hS ls hl
        refine lv_iload_n hx hb dX6_keeps_10 rfl (lv_at hl 0 rfl) ?_
        refine lv_sipush (v := 588) hx hb dX6_keeps_11 (by decide) ?_
        refine lv_icmp_ge (tgt := 39) hx hb dX6_keeps_14 (by decide) (fun c_3 => ?_) (fun c_3 => ?_)
        · have c_3h : (588 : Int32) ≤ nI i := c_3
          refine lv_aload_n hx hb dX6_keeps_39 rfl (lv_at hl 1 rfl) ?_
          refine lv_dup hx hb dX6_keeps_40 rfl ?_
          refine va_get (D := D) (ci := 6) (v := .int (nI km)) (C := RX6) (T := TX6) (N := 11) hx hb hts hi6 hown hK hP 0 rfl rfl 3 (by decide) (hts (.fieldLink RX6 95 "SelfCheckingCircuitModel" "keptMany" "I") (by decide +kernel)) (fun _ h9 => h9) rfl dX6_keeps_41 ?_
          refine lv_iconst (v := 1) hx hb dX6_keeps_44 (by decide) ?_
          refine lv_isub hx hb dX6_keeps_45 ?_
          refine hk_ti (nI 4) (by rw [c_1]; rfl) ?_
          refine va_put (D := D) (ci := 6) (v := .int (nI 4)) (ty := .int) (C := RX6) (T := TX6) (N := 11) hx hb hts hi6 tyX6 tyX6_ok nmX6 hown hK hP hD hS 0 rfl rfl 3 (by decide) (hts (.fieldLink RX6 95 "SelfCheckingCircuitModel" "keptMany" "I") (by decide +kernel)) (fun _ h9 => h9) rfl (by decide +kernel) rfl rfl (Nat.le_of_ble_eq_true rfl) dX6_keeps_46 (fun H locs hP hD hS => ?_)
          have hP : va_P D vwCl [(mo, .inr (6, [.ref ms, .ref mr, .ref mk, .int (nI 4), .ref mt, .int (nI ln), .int (nI sp), .int (nI rs), .int (nI ws), .ref mv, .ref me])), (ms, .inl (g.2.1, 147, .inl fs)), (mk, .inl (g.2.1, 735, .inl gk))] H := hP
          have hD : va_D A [(mo, .inr (6, [.ref ms, .ref mr, .ref mk, .int (nI 4), .ref mt, .int (nI ln), .int (nI sp), .int (nI rs), .int (nI ws), .ref mv, .ref me])), (ms, .inl (g.2.1, 147, .inl fs)), (mk, .inl (g.2.1, 735, .inl gk))] := hD
          refine lv_iconst (v := 0) hx hb dX6_keeps_49 (by decide) ?_
          refine lv_istore_n (lv' := [(1, .int 0), (0, .ref mo)]) hx hb dX6_keeps_50 rfl hl (by decide) rfl (fun ls hl => ?_)
          have loop51 : ∀ (fuel : Nat) (i2 : Nat) (gk2 : Nat → Int32), (147 - i2) < fuel → (i2 ≤ 147) → (∀ j, j < 588 → gk2 j = gk j) → (∀ j, j < i2 → gk2 (588 + j) = fs j) → ∀ (H : Heap) (locs : List Loc), va_P D vwCl [(mo, .inr (6, [.ref ms, .ref mr, .ref mk, .int (nI 4), .ref mt, .int (nI ln), .int (nI sp), .int (nI rs), .int (nI ws), .ref mv, .ref me])), (ms, .inl (g.2.1, 147, .inl fs)), (mk, .inl (g.2.1, 735, .inl gk2))] H → va_D A [(mo, .inr (6, [.ref ms, .ref mr, .ref mk, .int (nI 4), .ref mt, .int (nI ln), .int (nI sp), .int (nI rs), .int (nI ws), .ref mv, .ref me])), (ms, .inl (g.2.1, 147, .inl fs)), (mk, .inl (g.2.1, 735, .inl gk2))] → va_S A s.heap H locs → ∀ ls : Array Slot, lv_has ls 2 [(1, .int (nI i2)), (0, .ref mo)] → W p l e (headSpec wsX6_keeps ({ frames := 0, cells := 0, slots := 0, locals := 0 })).room s m ([.ref mo] : List Value).toArray below meth c H locs 0 0 (MQ below (va_Qv (S := Nat → Int32) (fun f' => KP fk fs f' km) (fun u => hk_Out D A (match u with | f' => [(mo, .inr (6, [.ref ms, .ref mr, .ref mk, .int (nI (min (km + 1) 5)), .ref mt, .int (nI ln), .int (nI sp), .int (nI rs), .int (nI ws), .ref mv, .ref me])), (ms, .inl (g.2.1, 147, .inl fs)), (mk, .inl (g.2.1, 735, .inl f'))])) A) ([.ref mo] : List Value).toArray s 0 0 A) (F0 m 51 ls []) := by
            intro fuel
            induction fuel with
            | zero => intro i2 gk2 hm; exact absurd hm (Nat.not_lt_zero _)
            | succ fuel ih_51 =>
              intro i2 gk2 hm_51 hi2 hc hd2 H locs hP hD hS ls hl
              refine lv_iload_n hx hb dX6_keeps_51 rfl (lv_at hl 0 rfl) ?_
              refine lv_sipush (v := 147) hx hb dX6_keeps_52 (by decide) ?_
              refine lv_icmp_ge (tgt := 85) hx hb dX6_keeps_55 (by decide) (fun c_4 => ?_) (fun c_4 => ?_)
              · have c_4h : (147 : Int32) ≤ nI i2 := c_4
                refine lv_aload_n hx hb dX6_keeps_85 rfl (lv_at hl 1 rfl) ?_
                refine lv_dup hx hb dX6_keeps_86 rfl ?_
                refine va_get (D := D) (ci := 6) (v := .int (nI 4)) (C := RX6) (T := TX6) (N := 11) hx hb hts hi6 hown hK hP 0 rfl rfl 3 (by decide) (hts (.fieldLink RX6 95 "SelfCheckingCircuitModel" "keptMany" "I") (by decide +kernel)) (fun _ h9 => h9) rfl dX6_keeps_87 ?_
                refine lv_iconst (v := 1) hx hb dX6_keeps_90 (by decide) ?_
                refine lv_iadd hx hb dX6_keeps_91 ?_
                refine hk_ti (nI (min (km + 1) 5)) (by rw [nI_inj (b := 5) c_1 (by omega) (by decide)]; rfl) ?_
                refine va_put (D := D) (ci := 6) (v := .int (nI (min (km + 1) 5))) (ty := .int) (C := RX6) (T := TX6) (N := 11) hx hb hts hi6 tyX6 tyX6_ok nmX6 hown hK hP hD hS 0 rfl rfl 3 (by decide) (hts (.fieldLink RX6 95 "SelfCheckingCircuitModel" "keptMany" "I") (by decide +kernel)) (fun _ h9 => h9) rfl (by decide +kernel) rfl rfl (Nat.le_of_ble_eq_true rfl) dX6_keeps_92 (fun H locs hP hD hS => ?_)
                have hP : va_P D vwCl [(mo, .inr (6, [.ref ms, .ref mr, .ref mk, .int (nI (min (km + 1) 5)), .ref mt, .int (nI ln), .int (nI sp), .int (nI rs), .int (nI ws), .ref mv, .ref me])), (ms, .inl (g.2.1, 147, .inl fs)), (mk, .inl (g.2.1, 735, .inl gk2))] H := hP
                have hD : va_D A [(mo, .inr (6, [.ref ms, .ref mr, .ref mk, .int (nI (min (km + 1) 5)), .ref mt, .int (nI ln), .int (nI sp), .int (nI rs), .int (nI ws), .ref mv, .ref me])), (ms, .inl (g.2.1, 147, .inl fs)), (mk, .inl (g.2.1, 735, .inl gk2))] := hD
                have hP9 := hP.sub (ws' := [(mo, .inr (6, [.ref ms, .ref mr, .ref mk, .int (nI (min (km + 1) 5)), .ref mt, .int (nI ln), .int (nI sp), .int (nI rs), .int (nI ws), .ref mv, .ref me])), (ms, .inl (g.2.1, 147, .inl fs)), (mk, .inl (g.2.1, 735, .inl gk2))]) [0, 1, 2] rfl
                have hD9 := hD.sub (ws' := [(mo, .inr (6, [.ref ms, .ref mr, .ref mk, .int (nI (min (km + 1) 5)), .ref mt, .int (nI ln), .int (nI sp), .int (nI rs), .int (nI ws), .ref mv, .ref me])), (ms, .inl (g.2.1, 147, .inl fs)), (mk, .inl (g.2.1, 735, .inl gk2))]) [0, 1, 2] (by decide) rfl
                exact W.vret hx hb hr (fun tt ht hW => ⟨⟨gk2, rfl, ⟨fun q => absurd (nI_inj (b := 5) c_1 (by omega) (by decide)) (by omega), fun _ => ⟨fun j hj => (hc j hj).trans (ha j (by rw [(show i = 588 by have := hk_ge 588 c_3; omega)]; exact hj)), (show i2 = 147 by have := hk_ge 147 c_4; omega) ▸ hd2⟩⟩, by rw [ht]; exact hP9, hD9⟩, hS.F ht⟩) hS.2.2 dX6_keeps_95
              · have c_4h : ¬ (147 : Int32) ≤ nI i2 := c_4
                refine lv_aload_n hx hb dX6_keeps_58 rfl (lv_at hl 1 rfl) ?_
                refine va_get (D := D) (ci := 6) (v := .ref mk) (C := RX6) (T := TX6) (N := 11) hx hb hts hi6 hown hK hP 0 rfl rfl 2 (by decide) (hts (.fieldLink RX6 16 "SelfCheckingCircuitModel" "kept" "[I") (by decide +kernel)) (fun _ h9 => h9) rfl dX6_keeps_59 ?_
                refine lv_sipush (v := 147) hx hb dX6_keeps_62 (by decide) ?_
                refine lv_aload_n hx hb dX6_keeps_65 rfl (lv_at hl 1 rfl) ?_
                refine va_get (D := D) (ci := 6) (v := .int (nI 4)) (C := RX6) (T := TX6) (N := 11) hx hb hts hi6 hown hK hP 0 rfl rfl 3 (by decide) (hts (.fieldLink RX6 95 "SelfCheckingCircuitModel" "keptMany" "I") (by decide +kernel)) (fun _ h9 => h9) rfl dX6_keeps_66 ?_
                refine lv_imul hx hb dX6_keeps_69 ?_
                refine lv_iload_n hx hb dX6_keeps_70 rfl (lv_at hl 0 rfl) ?_
                refine lv_iadd hx hb dX6_keeps_71 ?_
                refine hk_ti (nI (588 + i2)) (by rw [show (147 : Int32) * nI 4 = nI 588 from by decide]; exact nI_add 588 i2) ?_
                refine lv_aload_n hx hb dX6_keeps_72 rfl (lv_at hl 1 rfl) ?_
                refine va_get (D := D) (ci := 6) (v := .ref ms) (C := RX6) (T := TX6) (N := 11) hx hb hts hi6 hown hK hP 0 rfl rfl 0 (by decide) (hts (.fieldLink RX6 7 "SelfCheckingCircuitModel" "s" "[I") (by decide +kernel)) (fun _ h9 => h9) rfl dX6_keeps_73 ?_
                refine lv_iload_n hx hb dX6_keeps_76 rfl (lv_at hl 0 rfl) ?_
                refine va_iald hx hb hK hP 1 1 rfl rfl (vp_in_nI (N := 147) (hk_nge 147 c_4) (by decide)) dX6_keeps_77 ?_
                refine hk_ti (fs i2) (congrArg fs (nI_clamp (by omega))) ?_
                refine va_iast hx hb hK hP hD hS 2 1 rfl rfl (vp_in_nI (N := 735) (by have := hk_nge 147 c_4; omega) (by decide)) dX6_keeps_78 (fun H locs hP hD hS => ?_)
                rw [show (nI (588 + i2)).toNatClampNeg = 588 + i2 from nI_clamp (by omega)] at hP hD
                have hP : va_P D vwCl [(mo, .inr (6, [.ref ms, .ref mr, .ref mk, .int (nI 4), .ref mt, .int (nI ln), .int (nI sp), .int (nI rs), .int (nI ws), .ref mv, .ref me])), (ms, .inl (g.2.1, 147, .inl fs)), (mk, .inl (g.2.1, 735, .inl (upd gk2 (588 + i2) (fs i2))))] H := hP
                have hD : va_D A [(mo, .inr (6, [.ref ms, .ref mr, .ref mk, .int (nI 4), .ref mt, .int (nI ln), .int (nI sp), .int (nI rs), .int (nI ws), .ref mv, .ref me])), (ms, .inl (g.2.1, 147, .inl fs)), (mk, .inl (g.2.1, 735, .inl (upd gk2 (588 + i2) (fs i2))))] := hD
                refine lv_iinc (v := (nI (i2 + 1))) (lv' := [(1, .int (nI (i2 + 1))), (0, .ref mo)]) hx hb dX6_keeps_79 hl (k := 0) rfl (nI_1 i2) (by decide) rfl (fun ls hl => ?_)
                refine lv_goto (tgt := 51) hx hb dX6_keeps_82 (by decide) ?_
                have hlt : i2 < 147 := hk_nge 147 c_4
                exact ih_51 (i2 + 1) (upd gk2 (588 + i2) (fs i2)) (by omega) (by omega) (fun j hj => by rw [pk_un (by omega)]; exact hc j hj) (fun j hj => (Nat.lt_succ_iff_lt_or_eq.mp hj).elim (fun q => by rw [pk_un (by omega)]; exact hd2 j q) (fun q => by rw [q]; exact pk_us)) _ _ hP hD hS _ (lv_sub hl [0, 1] rfl)
          exact loop51 _ 0 gk (Nat.lt_succ_self _) (Nat.zero_le _) (fun _ _ => rfl) (fun _ h => absurd h (Nat.not_lt_zero _)) _ _ hP hD hS _ (lv_sub hl [0, 1] rfl)
        · have c_3h : ¬ (588 : Int32) ≤ nI i := c_3
          refine lv_aload_n hx hb dX6_keeps_17 rfl (lv_at hl 1 rfl) ?_
          refine va_get (D := D) (ci := 6) (v := .ref mk) (C := RX6) (T := TX6) (N := 11) hx hb hts hi6 hown hK hP 0 rfl rfl 2 (by decide) (hts (.fieldLink RX6 16 "SelfCheckingCircuitModel" "kept" "[I") (by decide +kernel)) (fun _ h9 => h9) rfl dX6_keeps_18 ?_
          refine lv_iload_n hx hb dX6_keeps_21 rfl (lv_at hl 0 rfl) ?_
          refine lv_aload_n hx hb dX6_keeps_22 rfl (lv_at hl 1 rfl) ?_
          refine va_get (D := D) (ci := 6) (v := .ref mk) (C := RX6) (T := TX6) (N := 11) hx hb hts hi6 hown hK hP 0 rfl rfl 2 (by decide) (hts (.fieldLink RX6 16 "SelfCheckingCircuitModel" "kept" "[I") (by decide +kernel)) (fun _ h9 => h9) rfl dX6_keeps_23 ?_
          refine lv_sipush (v := 147) hx hb dX6_keeps_26 (by decide) ?_
          refine lv_iload_n hx hb dX6_keeps_29 rfl (lv_at hl 0 rfl) ?_
          refine lv_iadd hx hb dX6_keeps_30 ?_
          refine hk_ti (nI (147 + i)) (nI_add 147 i) ?_
          refine va_iald hx hb hK hP 2 1 rfl rfl (vp_in_nI (N := 735) (by have := hk_nge 588 c_3; omega) (by decide)) dX6_keeps_31 ?_
          refine hk_ti (gk (147 + i)) (congrArg gk (nI_clamp (by omega))) ?_
          refine va_iast hx hb hK hP hD hS 2 1 rfl rfl (vp_in_nI (N := 735) (by have := hk_nge 588 c_3; omega) (by decide)) dX6_keeps_32 (fun H locs hP hD hS => ?_)
          rw [show (nI i).toNatClampNeg = i from nI_clamp (by omega)] at hP hD
          have hP : va_P D vwCl [(mo, .inr (6, [.ref ms, .ref mr, .ref mk, .int (nI km), .ref mt, .int (nI ln), .int (nI sp), .int (nI rs), .int (nI ws), .ref mv, .ref me])), (ms, .inl (g.2.1, 147, .inl fs)), (mk, .inl (g.2.1, 735, .inl (upd gk i (gk (147 + i)))))] H := hP
          have hD : va_D A [(mo, .inr (6, [.ref ms, .ref mr, .ref mk, .int (nI km), .ref mt, .int (nI ln), .int (nI sp), .int (nI rs), .int (nI ws), .ref mv, .ref me])), (ms, .inl (g.2.1, 147, .inl fs)), (mk, .inl (g.2.1, 735, .inl (upd gk i (gk (147 + i)))))] := hD
          refine lv_iinc (v := (nI (i + 1))) (lv' := [(1, .int (nI (i + 1))), (0, .ref mo)]) hx hb dX6_keeps_33 hl (k := 0) rfl (nI_1 i) (by decide) rfl (fun ls hl => ?_)
          refine lv_goto (tgt := 10) hx hb dX6_keeps_36 (by decide) ?_
          have hlt : i < 588 := hk_nge 588 c_3
          exact ih_10 (i + 1) (upd gk i (gk (147 + i))) (by omega) (by omega) (hk_up (fun j v => v = fk (147 + j)) ha (by rw [hb4 (147 + i) (by omega)])) (fun j hj => by rw [pk_un (by omega)]; exact hb4 j (by omega)) _ _ hP hD hS _ (lv_sub hl [0, 1] rfl)
    exact loop10 _ 0 fk (Nat.lt_succ_self _) (Nat.zero_le _) (fun _ h => absurd h (Nat.not_lt_zero _)) (fun _ _ => rfl) _ _ hP hD hS _ (lv_sub hl [0, 1] rfl)
set_option maxHeartbeats 4000000 in
set_option maxRecDepth 100000 in
theorem c6_undo (l : Launch) (D : va_G) (g : hk_G) (ti : Nat) (sz : Nat) (mo : Nat) (ms : Nat) (mr : Nat) (mk : Nat) (mt : Nat) (mv : Nat) (me : Nat) (fs : Nat → Int32) (km : Nat) (ln : Nat) (sp : Nat) (rs : Nat) (ws : Nat) (fk : Nat → Int32) (hkm : km ≤ 5) (hk1 : 1 ≤ km) : Met l yX6_undo wsX6_undo ({ frames := 0, cells := 0, slots := 0, locals := 0 }) (va_Pc [.ref mo] (hk_In D g ti [(mo, .inr (6, [.ref ms, .ref mr, .ref mk, .int (nI km), .ref mt, .int (nI ln), .int (nI sp), .int (nI rs), .int (nI ws), .ref mv, .ref me])), (ms, .inl (g.2.1, 147, .inl fs)), (mk, .inl (g.2.1, 735, .inl fk))] sz)) (va_Qi (S := Nat → Int32) (fun r f' => r = nI (km - 1) ∧ ∀ j, j < 147 → f' j = fk (147 * (km - 1) + j)) (fun u => hk_Out D (va_A [(mo, .inr (6, [.ref ms, .ref mr, .ref mk, .int (nI km), .ref mt, .int (nI ln), .int (nI sp), .int (nI rs), .int (nI ws), .ref mv, .ref me])), (ms, .inl (g.2.1, 147, .inl fs)), (mk, .inl (g.2.1, 735, .inl fk))] sz) (match u with | f' => [(mo, .inr (6, [.ref ms, .ref mr, .ref mk, .int (nI (km - 1)), .ref mt, .int (nI ln), .int (nI sp), .int (nI rs), .int (nI ws), .ref mv, .ref me])), (ms, .inl (g.2.1, 147, .inl f')), (mk, .inl (g.2.1, 735, .inl fk))])) (va_A [(mo, .inr (6, [.ref ms, .ref mr, .ref mk, .int (nI km), .ref mt, .int (nI ln), .int (nI sp), .int (nI rs), .int (nI ws), .ref mv, .ref me])), (ms, .inl (g.2.1, 147, .inl fs)), (mk, .inl (g.2.1, 735, .inl fk))] sz)) 0 0 (va_A [(mo, .inr (6, [.ref ms, .ref mr, .ref mk, .int (nI km), .ref mt, .int (nI ln), .int (nI sp), .int (nI rs), .int (nI ws), .ref mv, .ref me])), (ms, .inl (g.2.1, 147, .inl fs)), (mk, .inl (g.2.1, 735, .inl fk))] sz) := by
  refine Met.ofW (cc := cX6_undo) (maxL := 2) (ret := (some .int)) (by decide) rfl ?_
  intro p e s m args below meth c s₁ Bd hml hv
  obtain ⟨rfl, hsz, hP, hD0, hE⟩ := hv
  have hx := Bd.exec
  have hb := Bd.bytes
  have hr := Bd.returns
  have hts := atoms_spec (ws := wsX6_undo) Bd.pre
  have hown : s.vm.findClass RX6 = some m.cls := findClass_of_methodNamed Bd.named
  have hlocks := Bd.notSynchronized
  have hK := hE.1
  have hi6 : ∀ w ∈ wsX60, w ∈ wsX6_undo := fun w h => List.mem_cons_of_mem _ (List.mem_append_right _ h)
  subst hsz
  have hD := hD0.self (sz := s.heap.size)
  generalize hAe : va_A [(mo, .inr (6, [.ref ms, .ref mr, .ref mk, .int (nI km), .ref mt, .int (nI ln), .int (nI sp), .int (nI rs), .int (nI ws), .ref mv, .ref me])), (ms, .inl (g.2.1, 147, .inl fs)), (mk, .inl (g.2.1, 735, .inl fk))] s.heap.size = A at hD hE ⊢
  have hA : ∀ q : Nat, s.heap.size ≤ q → A q := fun q h => by rw [← hAe]; exact Or.inr h
  have hS : va_S A s.heap s.heap [] := va_S.rf
  have hl := lv_entry ([.ref mo]) (n := 2) (Nat.le_of_ble_eq_true rfl)
  rw [lg_entry_eq]
  generalize (lg_sl ([.ref mo]) ++ List.replicate (2 - (lg_sl ([.ref mo])).length) Slot.unset).toArray = ls at hl ⊢
  have hl : lv_has ls 2 [(0, .ref mo)] := hl
  refine lv_aload_n hx hb dX6_undo_0 rfl (lv_at hl 0 rfl) ?_
  refine va_get (D := D) (ci := 6) (v := .int (nI km)) (C := RX6) (T := TX6) (N := 11) hx hb hts hi6 hown hK hP 0 rfl rfl 3 (by decide) (hts (.fieldLink RX6 95 "SelfCheckingCircuitModel" "keptMany" "I") (by decide +kernel)) (fun _ h9 => h9) rfl dX6_undo_1 ?_
  refine lv_if_ne (tgt := 10) hx hb dX6_undo_4 (by decide) (fun c_1 => ?_) (fun c_1 => ?_)
  · have c_1h : ¬ nI km = (0 : Int32) := c_1
    refine lv_aload_n hx hb dX6_undo_10 rfl (lv_at hl 0 rfl) ?_
    refine lv_dup hx hb dX6_undo_11 rfl ?_
    refine va_get (D := D) (ci := 6) (v := .int (nI km)) (C := RX6) (T := TX6) (N := 11) hx hb hts hi6 hown hK hP 0 rfl rfl 3 (by decide) (hts (.fieldLink RX6 95 "SelfCheckingCircuitModel" "keptMany" "I") (by decide +kernel)) (fun _ h9 => h9) rfl dX6_undo_12 ?_
    refine lv_iconst (v := 1) hx hb dX6_undo_15 (by decide) ?_
    refine lv_isub hx hb dX6_undo_16 ?_
    refine hk_ti (nI (km - 1)) (pk_sub hk1) ?_
    refine va_put (D := D) (ci := 6) (v := .int (nI (km - 1))) (ty := .int) (C := RX6) (T := TX6) (N := 11) hx hb hts hi6 tyX6 tyX6_ok nmX6 hown hK hP hD hS 0 rfl rfl 3 (by decide) (hts (.fieldLink RX6 95 "SelfCheckingCircuitModel" "keptMany" "I") (by decide +kernel)) (fun _ h9 => h9) rfl (by decide +kernel) rfl rfl (Nat.le_of_ble_eq_true rfl) dX6_undo_17 (fun H locs hP hD hS => ?_)
    have hP : va_P D vwCl [(mo, .inr (6, [.ref ms, .ref mr, .ref mk, .int (nI (km - 1)), .ref mt, .int (nI ln), .int (nI sp), .int (nI rs), .int (nI ws), .ref mv, .ref me])), (ms, .inl (g.2.1, 147, .inl fs)), (mk, .inl (g.2.1, 735, .inl fk))] H := hP
    have hD : va_D A [(mo, .inr (6, [.ref ms, .ref mr, .ref mk, .int (nI (km - 1)), .ref mt, .int (nI ln), .int (nI sp), .int (nI rs), .int (nI ws), .ref mv, .ref me])), (ms, .inl (g.2.1, 147, .inl fs)), (mk, .inl (g.2.1, 735, .inl fk))] := hD
    refine lv_iconst (v := 0) hx hb dX6_undo_20 (by decide) ?_
    refine lv_istore_n (lv' := [(1, .int 0), (0, .ref mo)]) hx hb dX6_undo_21 rfl hl (by decide) rfl (fun ls hl => ?_)
    have loop22 : ∀ (fuel : Nat) (i : Nat) (gs : Nat → Int32), (147 - i) < fuel → (i ≤ 147) → (∀ j, j < i → gs j = fk (147 * (km - 1) + j)) → ∀ (H : Heap) (locs : List Loc), va_P D vwCl [(mo, .inr (6, [.ref ms, .ref mr, .ref mk, .int (nI (km - 1)), .ref mt, .int (nI ln), .int (nI sp), .int (nI rs), .int (nI ws), .ref mv, .ref me])), (ms, .inl (g.2.1, 147, .inl gs)), (mk, .inl (g.2.1, 735, .inl fk))] H → va_D A [(mo, .inr (6, [.ref ms, .ref mr, .ref mk, .int (nI (km - 1)), .ref mt, .int (nI ln), .int (nI sp), .int (nI rs), .int (nI ws), .ref mv, .ref me])), (ms, .inl (g.2.1, 147, .inl gs)), (mk, .inl (g.2.1, 735, .inl fk))] → va_S A s.heap H locs → ∀ ls : Array Slot, lv_has ls 2 [(1, .int (nI i)), (0, .ref mo)] → W p l e (headSpec wsX6_undo ({ frames := 0, cells := 0, slots := 0, locals := 0 })).room s m ([.ref mo] : List Value).toArray below meth c H locs 0 0 (MQ below (va_Qi (S := Nat → Int32) (fun r f' => r = nI (km - 1) ∧ ∀ j, j < 147 → f' j = fk (147 * (km - 1) + j)) (fun u => hk_Out D A (match u with | f' => [(mo, .inr (6, [.ref ms, .ref mr, .ref mk, .int (nI (km - 1)), .ref mt, .int (nI ln), .int (nI sp), .int (nI rs), .int (nI ws), .ref mv, .ref me])), (ms, .inl (g.2.1, 147, .inl f')), (mk, .inl (g.2.1, 735, .inl fk))])) A) ([.ref mo] : List Value).toArray s 0 0 A) (F0 m 22 ls []) := by
      intro fuel
      induction fuel with
      | zero => intro i gs hm; exact absurd hm (Nat.not_lt_zero _)
      | succ fuel ih_22 =>
        intro i gs hm_22 hi ha H locs hP hD hS ls hl
        refine lv_iload_n hx hb dX6_undo_22 rfl (lv_at hl 0 rfl) ?_
        refine lv_sipush (v := 147) hx hb dX6_undo_23 (by decide) ?_
        refine lv_icmp_ge (tgt := 56) hx hb dX6_undo_26 (by decide) (fun c_2 => ?_) (fun c_2 => ?_)
        · have c_2h : (147 : Int32) ≤ nI i := c_2
          refine lv_aload_n hx hb dX6_undo_56 rfl (lv_at hl 1 rfl) ?_
          refine va_get (D := D) (ci := 6) (v := .int (nI (km - 1))) (C := RX6) (T := TX6) (N := 11) hx hb hts hi6 hown hK hP 0 rfl rfl 3 (by decide) (hts (.fieldLink RX6 95 "SelfCheckingCircuitModel" "keptMany" "I") (by decide +kernel)) (fun _ h9 => h9) rfl dX6_undo_57 ?_
          have hP9 := hP.sub (ws' := [(mo, .inr (6, [.ref ms, .ref mr, .ref mk, .int (nI (km - 1)), .ref mt, .int (nI ln), .int (nI sp), .int (nI rs), .int (nI ws), .ref mv, .ref me])), (ms, .inl (g.2.1, 147, .inl gs)), (mk, .inl (g.2.1, 735, .inl fk))]) [0, 1, 2] rfl
          have hD9 := hD.sub (ws' := [(mo, .inr (6, [.ref ms, .ref mr, .ref mk, .int (nI (km - 1)), .ref mt, .int (nI ln), .int (nI sp), .int (nI rs), .int (nI ws), .ref mv, .ref me])), (ms, .inl (g.2.1, 147, .inl gs)), (mk, .inl (g.2.1, 735, .inl fk))]) [0, 1, 2] (by decide) rfl
          exact W.iret (v := nI (km - 1)) hx hb hr (fun tt ht hW => ⟨⟨_, gs, rfl, ⟨rfl, (show i = 147 by have := hk_ge 147 c_2; omega) ▸ ha⟩, by rw [ht]; exact hP9, hD9⟩, hS.F ht⟩) hS.2.2 dX6_undo_60
        · have c_2h : ¬ (147 : Int32) ≤ nI i := c_2
          refine lv_aload_n hx hb dX6_undo_29 rfl (lv_at hl 1 rfl) ?_
          refine va_get (D := D) (ci := 6) (v := .ref ms) (C := RX6) (T := TX6) (N := 11) hx hb hts hi6 hown hK hP 0 rfl rfl 0 (by decide) (hts (.fieldLink RX6 7 "SelfCheckingCircuitModel" "s" "[I") (by decide +kernel)) (fun _ h9 => h9) rfl dX6_undo_30 ?_
          refine lv_iload_n hx hb dX6_undo_33 rfl (lv_at hl 0 rfl) ?_
          refine lv_aload_n hx hb dX6_undo_34 rfl (lv_at hl 1 rfl) ?_
          refine va_get (D := D) (ci := 6) (v := .ref mk) (C := RX6) (T := TX6) (N := 11) hx hb hts hi6 hown hK hP 0 rfl rfl 2 (by decide) (hts (.fieldLink RX6 16 "SelfCheckingCircuitModel" "kept" "[I") (by decide +kernel)) (fun _ h9 => h9) rfl dX6_undo_35 ?_
          refine lv_sipush (v := 147) hx hb dX6_undo_38 (by decide) ?_
          refine lv_aload_n hx hb dX6_undo_41 rfl (lv_at hl 1 rfl) ?_
          refine va_get (D := D) (ci := 6) (v := .int (nI (km - 1))) (C := RX6) (T := TX6) (N := 11) hx hb hts hi6 hown hK hP 0 rfl rfl 3 (by decide) (hts (.fieldLink RX6 95 "SelfCheckingCircuitModel" "keptMany" "I") (by decide +kernel)) (fun _ h9 => h9) rfl dX6_undo_42 ?_
          refine lv_imul hx hb dX6_undo_45 ?_
          refine lv_iload_n hx hb dX6_undo_46 rfl (lv_at hl 0 rfl) ?_
          refine lv_iadd hx hb dX6_undo_47 ?_
          refine hk_ti (nI (147 * (km - 1) + i)) (by rw [show (147 : Int32) * nI (km - 1) = nI (147 * (km - 1)) from pk_mul 147 _]; exact nI_add _ i) ?_
          refine va_iald hx hb hK hP 2 1 rfl rfl (vp_in_nI (N := 735) (by have := hk_nge 147 c_2; omega) (by decide)) dX6_undo_48 ?_
          refine hk_ti (fk (147 * (km - 1) + i)) (congrArg fk (nI_clamp (by omega))) ?_
          refine va_iast hx hb hK hP hD hS 1 1 rfl rfl (vp_in_nI (N := 147) (hk_nge 147 c_2) (by decide)) dX6_undo_49 (fun H locs hP hD hS => ?_)
          rw [show (nI i).toNatClampNeg = i from nI_clamp (by omega)] at hP hD
          have hP : va_P D vwCl [(mo, .inr (6, [.ref ms, .ref mr, .ref mk, .int (nI (km - 1)), .ref mt, .int (nI ln), .int (nI sp), .int (nI rs), .int (nI ws), .ref mv, .ref me])), (ms, .inl (g.2.1, 147, .inl (upd gs i (fk (147 * (km - 1) + i))))), (mk, .inl (g.2.1, 735, .inl fk))] H := hP
          have hD : va_D A [(mo, .inr (6, [.ref ms, .ref mr, .ref mk, .int (nI (km - 1)), .ref mt, .int (nI ln), .int (nI sp), .int (nI rs), .int (nI ws), .ref mv, .ref me])), (ms, .inl (g.2.1, 147, .inl (upd gs i (fk (147 * (km - 1) + i))))), (mk, .inl (g.2.1, 735, .inl fk))] := hD
          refine lv_iinc (v := (nI (i + 1))) (lv' := [(1, .int (nI (i + 1))), (0, .ref mo)]) hx hb dX6_undo_50 hl (k := 0) rfl (nI_1 i) (by decide) rfl (fun ls hl => ?_)
          refine lv_goto (tgt := 22) hx hb dX6_undo_53 (by decide) ?_
          have hlt : i < 147 := hk_nge 147 c_2
          exact ih_22 (i + 1) (upd gs i (fk (147 * (km - 1) + i))) (by omega) (by omega) (hk_up (fun j v => v = fk (147 * (km - 1) + j)) ha rfl) _ _ hP hD hS _ (lv_sub hl [0, 1] rfl)
    exact loop22 _ 0 fs (Nat.lt_succ_self _) (Nat.zero_le _) (fun _ h => absurd h (Nat.not_lt_zero _)) _ _ hP hD hS _ (lv_sub hl [0, 1] rfl)
  · have c_1h : nI km = (0 : Int32) := c_1
    exact absurd c_1 (nI_ne0 (by omega) (by omega))
set_option maxHeartbeats 4000000 in
set_option maxRecDepth 100000 in
theorem c6_undo_no (l : Launch) (D : va_G) (g : hk_G) (ti : Nat) (mo : Nat) (ms : Nat) (mr : Nat) (mk : Nat) (mt : Nat) (mv : Nat) (me : Nat) (fs : Nat → Int32) (ln : Nat) (sp : Nat) (rs : Nat) (ws : Nat)  : Met l yX6_undo wsX6_undo ({ frames := 0, cells := 0, slots := 0, locals := 0 }) (va_Pc [.ref mo] (hk_Ro D g ti [(mo, .inr (6, [.ref ms, .ref mr, .ref mk, .int 0, .ref mt, .int (nI ln), .int (nI sp), .int (nI rs), .int (nI ws), .ref mv, .ref me])), (ms, .inl (g.2.1, 147, .inl fs))])) (vp_Si (fun r => r = -102)) 0 0 (fun _ => False) := by
  refine Met.ofW (cc := cX6_undo) (maxL := 2) (ret := (some .int)) (by decide) rfl ?_
  intro p e s m args below meth c s₁ Bd hml hv
  obtain ⟨rfl, hP, hE⟩ := hv
  have hx := Bd.exec
  have hb := Bd.bytes
  have hr := Bd.returns
  have hts := atoms_spec (ws := wsX6_undo) Bd.pre
  have hown : s.vm.findClass RX6 = some m.cls := findClass_of_methodNamed Bd.named
  have hlocks := Bd.notSynchronized
  have hK := hE.1
  have hi6 : ∀ w ∈ wsX60, w ∈ wsX6_undo := fun w h => List.mem_cons_of_mem _ (List.mem_append_right _ h)
  have hS : va_S (fun _ => False) s.heap s.heap [] := va_S.rf
  have hl := lv_entry ([.ref mo]) (n := 2) (Nat.le_of_ble_eq_true rfl)
  rw [lg_entry_eq]
  generalize (lg_sl ([.ref mo]) ++ List.replicate (2 - (lg_sl ([.ref mo])).length) Slot.unset).toArray = ls at hl ⊢
  have hl : lv_has ls 2 [(0, .ref mo)] := hl
  refine lv_aload_n hx hb dX6_undo_0 rfl (lv_at hl 0 rfl) ?_
  refine va_get (D := D) (ci := 6) (v := .int 0) (C := RX6) (T := TX6) (N := 11) hx hb hts hi6 hown hK hP 0 rfl rfl 3 (by decide) (hts (.fieldLink RX6 95 "SelfCheckingCircuitModel" "keptMany" "I") (by decide +kernel)) (fun _ h9 => h9) rfl dX6_undo_1 ?_
  refine lv_if_ne (tgt := 10) hx hb dX6_undo_4 (by decide) (fun c_1 => ?_) (fun c_1 => ?_)
  · have c_1h : ¬ (0 : Int32) = (0 : Int32) := c_1
    exact absurd c_1 (by decide)
  · have c_1h : (0 : Int32) = (0 : Int32) := c_1
    refine lv_bipush (v := (-102)) hx hb dX6_undo_7 (by decide) ?_
    exact W.iret (v := (-102)) hx hb hr (fun tt ht hW => ⟨_, rfl, rfl, ht⟩) (fun _ h => by cases h) dX6_undo_9
