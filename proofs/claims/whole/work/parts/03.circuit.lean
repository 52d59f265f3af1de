set_option maxHeartbeats 4000000 in
set_option maxRecDepth 100000 in
theorem c1_gates (l : Launch) (D : va_G) (g : hk_G) (ti : Nat) (a : Nat) (f0 : Value) (f1 : Value) (f2 : Value) (f3 : Value) (ni : Int32) (nn : Int32) (no : Int32) (nm : Int64) (cd : Int32) (wt : Int32)  : Met l yX1_gates wsX1_gates ({ frames := 0, cells := 0, slots := 0, locals := 0 }) (va_Pc [.ref a] (hk_Ro D g ti [(a, .inr (1, [f0, f1, f2, f3, .int ni, .int nn, .int no, .long nm, .int cd, .int wt]))])) (vp_Si (fun r => r = nn - ni)) 0 0 (fun _ => False) := by
  refine Met.ofW (cc := cX1_gates) (maxL := 1) (ret := (some .int)) (by decide) rfl ?_
  intro p e s m args below meth c s₁ B hml hv
  obtain ⟨rfl, hP, hE⟩ := hv
  have hx := B.exec
  have hb := B.bytes
  have hr := B.returns
  have hts := atoms_spec (ws := wsX1_gates) B.pre
  have hown : s.vm.findClass RX1 = some m.cls := findClass_of_methodNamed B.named
  have hlocks := B.notSynchronized
  have hK := hE.1
  have hi1 : ∀ w ∈ wsX10, w ∈ wsX1_gates := fun w h => List.mem_cons_of_mem _ (List.mem_append_right _ h)
  have hS : va_S (fun _ => False) s.heap s.heap [] := va_S.rf
  have hl := lv_entry ([.ref a]) (n := 1) (Nat.le_of_ble_eq_true rfl)
  rw [lg_entry_eq]
  generalize (lg_sl ([.ref a]) ++ List.replicate (1 - (lg_sl ([.ref a])).length) Slot.unset).toArray = ls at hl ⊢
  have hl : lv_has ls 1 [(0, .ref a)] := hl
  refine lv_aload_n hx hb dX1_gates_0 rfl (lv_at hl 0 rfl) ?_
  refine va_get (D := D) (ci := 1) (v := .int nn) (C := RX1) (T := TX1) (N := 10) hx hb hts hi1 hown hK hP 0 rfl rfl 5 (by decide) (hts (.fieldLink RX1 34 "SelfCheckingCircuit$Circuit" "nodes" "I") (by decide +kernel)) (fun _ h9 => h9) rfl dX1_gates_1 ?_
  refine lv_aload_n hx hb dX1_gates_4 rfl (lv_at hl 0 rfl) ?_
  refine va_get (D := D) (ci := 1) (v := .int ni) (C := RX1) (T := TX1) (N := 10) hx hb hts hi1 hown hK hP 0 rfl rfl 4 (by decide) (hts (.fieldLink RX1 30 "SelfCheckingCircuit$Circuit" "inputs" "I") (by decide +kernel)) (fun _ h9 => h9) rfl dX1_gates_5 ?_
  refine lv_isub hx hb dX1_gates_8 ?_
  exact W.iret (v := (nn - ni)) hx hb hr (fun t ht hW => ⟨_, rfl, rfl, ht⟩) (fun _ h => by cases h) dX1_gates_9
set_option maxHeartbeats 4000000 in
set_option maxRecDepth 100000 in
theorem c1_faults (l : Launch) (D : va_G) (g : hk_G) (ti : Nat) (a : Nat) (f0 : Value) (f1 : Value) (f2 : Value) (f3 : Value) (ni : Int32) (nn : Int32) (no : Int32) (nm : Int64) (cd : Int32) (wt : Int32)  : Met l yX1_faults wsX1_faults ({ frames := 0, cells := 0, slots := 0, locals := 0 }) (va_Pc [.ref a] (hk_Ro D g ti [(a, .inr (1, [f0, f1, f2, f3, .int ni, .int nn, .int no, .long nm, .int cd, .int wt]))])) (vp_Si (fun r => r = 2 * nn)) 0 0 (fun _ => False) := by
  refine Met.ofW (cc := cX1_faults) (maxL := 1) (ret := (some .int)) (by decide) rfl ?_
  intro p e s m args below meth c s₁ B hml hv
  obtain ⟨rfl, hP, hE⟩ := hv
  have hx := B.exec
  have hb := B.bytes
  have hr := B.returns
  have hts := atoms_spec (ws := wsX1_faults) B.pre
  have hown : s.vm.findClass RX1 = some m.cls := findClass_of_methodNamed B.named
  have hlocks := B.notSynchronized
  have hK := hE.1
  have hi1 : ∀ w ∈ wsX10, w ∈ wsX1_faults := fun w h => List.mem_cons_of_mem _ (List.mem_append_right _ h)
  have hS : va_S (fun _ => False) s.heap s.heap [] := va_S.rf
  have hl := lv_entry ([.ref a]) (n := 1) (Nat.le_of_ble_eq_true rfl)
  rw [lg_entry_eq]
  generalize (lg_sl ([.ref a]) ++ List.replicate (1 - (lg_sl ([.ref a])).length) Slot.unset).toArray = ls at hl ⊢
  have hl : lv_has ls 1 [(0, .ref a)] := hl
  refine lv_iconst (v := 2) hx hb dX1_faults_0 (by decide) ?_
  refine lv_aload_n hx hb dX1_faults_1 rfl (lv_at hl 0 rfl) ?_
  refine va_get (D := D) (ci := 1) (v := .int nn) (C := RX1) (T := TX1) (N := 10) hx hb hts hi1 hown hK hP 0 rfl rfl 5 (by decide) (hts (.fieldLink RX1 34 "SelfCheckingCircuit$Circuit" "nodes" "I") (by decide +kernel)) (fun _ h9 => h9) rfl dX1_faults_2 ?_
  refine lv_imul hx hb dX1_faults_5 ?_
  exact W.iret (v := ((2 : Int32) * nn)) hx hb hr (fun t ht hW => ⟨_, rfl, rfl, ht⟩) (fun _ h => by cases h) dX1_faults_6
set_option maxHeartbeats 4000000 in
set_option maxRecDepth 100000 in
theorem c1_words (l : Launch) (D : va_G) (g : hk_G) (ti : Nat) (a : Nat) (f0 : Value) (f1 : Value) (f2 : Value) (f3 : Value) (ni : Int32) (nn : Int32) (no : Int32) (nm : Int64) (cd : Int32) (wt : Int32)  : Met l yX1_words wsX1_words ({ frames := 0, cells := 0, slots := 0, locals := 0 }) (va_Pc [.ref a] (hk_Ro D g ti [(a, .inr (1, [f0, f1, f2, f3, .int ni, .int nn, .int no, .long nm, .int cd, .int wt]))])) (vp_Sl (fun r => r = (((-1) : Int64).toUInt64 >>> ((64 - ((1 : Int32) <<< (ni &&& 31))).toInt64.toUInt64 &&& Int64.toUInt64 63)).toInt64)) 0 0 (fun _ => False) := by
  refine Met.ofW (cc := cX1_words) (maxL := 1) (ret := (some .long)) (by decide) rfl ?_
  intro p e s m args below meth c s₁ B hml hv
  obtain ⟨rfl, hP, hE⟩ := hv
  have hx := B.exec
  have hb := B.bytes
  have hr := B.returns
  have hts := atoms_spec (ws := wsX1_words) B.pre
  have hown : s.vm.findClass RX1 = some m.cls := findClass_of_methodNamed B.named
  have hlocks := B.notSynchronized
  have hK := hE.1
  have hi1 : ∀ w ∈ wsX10, w ∈ wsX1_words := fun w h => List.mem_cons_of_mem _ (List.mem_append_right _ h)
  have hS : va_S (fun _ => False) s.heap s.heap [] := va_S.rf
  have hl := lv_entry ([.ref a]) (n := 1) (Nat.le_of_ble_eq_true rfl)
  rw [lg_entry_eq]
  generalize (lg_sl ([.ref a]) ++ List.replicate (1 - (lg_sl ([.ref a])).length) Slot.unset).toArray = ls at hl ⊢
  have hl : lv_has ls 1 [(0, .ref a)] := hl
  refine lv_ldc2 (own := RX1) (v := (-1)) hx hb hown (hts (.constantLong RX1 50 (-1)) (by decide +kernel)) dX1_words_0 ?_
  refine lv_bipush (v := 64) hx hb dX1_words_3 (by decide) ?_
  refine lv_iconst (v := 1) hx hb dX1_words_5 (by decide) ?_
  refine lv_aload_n hx hb dX1_words_6 rfl (lv_at hl 0 rfl) ?_
  refine va_get (D := D) (ci := 1) (v := .int ni) (C := RX1) (T := TX1) (N := 10) hx hb hts hi1 hown hK hP 0 rfl rfl 4 (by decide) (hts (.fieldLink RX1 30 "SelfCheckingCircuit$Circuit" "inputs" "I") (by decide +kernel)) (fun _ h9 => h9) rfl dX1_words_7 ?_
  refine lv_ishl hx hb dX1_words_10 ?_
  refine lv_isub hx hb dX1_words_11 ?_
  refine lv_lushr hx hb dX1_words_12 rfl ?_
  exact W.lret (v := ((-1 : Int64).toUInt64 >>> (((64 : Int32) - ((1 : Int32) <<< (ni &&& 31))).toInt64.toUInt64 &&& Int64.toUInt64 63)).toInt64) hx hb hr (fun t ht hW => ⟨_, rfl, rfl, ht⟩) (fun _ h => by cases h) dX1_words_13
set_option maxHeartbeats 4000000 in
set_option maxRecDepth 100000 in
theorem c1_hasNode (l : Launch) (D : va_G) (g : hk_G) (ti : Nat) (a : Nat) (f0 : Value) (f1 : Value) (f2 : Value) (f3 : Value) (ni : Int32) (nn : Int32) (no : Int32) (nm : Int64) (cd : Int32) (wt : Int32) (v : Int32)  : Met l yX1_hasNode wsX1_hasNode ({ frames := 0, cells := 0, slots := 0, locals := 0 }) (va_Pc [.ref a, .int v] (hk_Ro D g ti [(a, .inr (1, [f0, f1, f2, f3, .int ni, .int nn, .int no, .long nm, .int cd, .int wt]))])) (vp_Si (fun r => r = if v < 0 then 0 else if nn ≤ v then 0 else 1)) 0 0 (fun _ => False) := by
  refine Met.ofW (cc := cX1_hasNode) (maxL := 2) (ret := (some .boolean)) (by decide) rfl ?_
  intro p e s m args below meth c s₁ B hml hv
  obtain ⟨rfl, hP, hE⟩ := hv
  have hx := B.exec
  have hb := B.bytes
  have hr := B.returns
  have hts := atoms_spec (ws := wsX1_hasNode) B.pre
  have hown : s.vm.findClass RX1 = some m.cls := findClass_of_methodNamed B.named
  have hlocks := B.notSynchronized
  have hK := hE.1
  have hi1 : ∀ w ∈ wsX10, w ∈ wsX1_hasNode := fun w h => List.mem_cons_of_mem _ (List.mem_append_right _ h)
  have hS : va_S (fun _ => False) s.heap s.heap [] := va_S.rf
  have hl := lv_entry ([.ref a, .int v]) (n := 2) (Nat.le_of_ble_eq_true rfl)
  rw [lg_entry_eq]
  generalize (lg_sl ([.ref a, .int v]) ++ List.replicate (2 - (lg_sl ([.ref a, .int v])).length) Slot.unset).toArray = ls at hl ⊢
  have hl : lv_has ls 2 [(0, .ref a), (1, .int v)] := hl
  refine lv_iload_n hx hb dX1_hasNode_0 rfl (lv_at hl 1 rfl) ?_
  refine lv_if_lt (tgt := 16) hx hb dX1_hasNode_1 (by decide) (fun c_1 => ?_) (fun c_1 => ?_)
  · have c_1h : v < (0 : Int32) := c_1
    refine lv_iconst (v := 0) hx hb dX1_hasNode_16 (by decide) ?_
    exact W.zret (v := 0) hx hb hr (hk_z0) (fun t ht hW => ⟨_, rfl, by rw [if_pos c_1], ht⟩) (fun _ h => by cases h) dX1_hasNode_17
  · have c_1h : ¬ v < (0 : Int32) := c_1
    refine lv_iload_n hx hb dX1_hasNode_4 rfl (lv_at hl 1 rfl) ?_
    refine lv_aload_n hx hb dX1_hasNode_5 rfl (lv_at hl 0 rfl) ?_
    refine va_get (D := D) (ci := 1) (v := .int nn) (C := RX1) (T := TX1) (N := 10) hx hb hts hi1 hown hK hP 0 rfl rfl 5 (by decide) (hts (.fieldLink RX1 34 "SelfCheckingCircuit$Circuit" "nodes" "I") (by decide +kernel)) (fun _ h9 => h9) rfl dX1_hasNode_6 ?_
    refine lv_icmp_ge (tgt := 16) hx hb dX1_hasNode_9 (by decide) (fun c_2 => ?_) (fun c_2 => ?_)
    · have c_2h : nn ≤ v := c_2
      refine lv_iconst (v := 0) hx hb dX1_hasNode_16 (by decide) ?_
      exact W.zret (v := 0) hx hb hr (hk_z0) (fun t ht hW => ⟨_, rfl, by rw [if_neg c_1, if_pos c_2], ht⟩) (fun _ h => by cases h) dX1_hasNode_17
    · have c_2h : ¬ nn ≤ v := c_2
      refine lv_iconst (v := 1) hx hb dX1_hasNode_12 (by decide) ?_
      refine lv_goto (tgt := 17) hx hb dX1_hasNode_13 (by decide) ?_
      exact W.zret (v := 1) hx hb hr (hk_z1) (fun t ht hW => ⟨_, rfl, by rw [if_neg c_1, if_neg c_2], ht⟩) (fun _ h => by cases h) dX1_hasNode_17
set_option maxHeartbeats 4000000 in
set_option maxRecDepth 100000 in
theorem c1_hasFault (l : Launch) (D : va_G) (g : hk_G) (ti : Nat) (a : Nat) (f0 : Value) (f1 : Value) (f2 : Value) (f3 : Value) (ni : Int32) (nn : Int32) (no : Int32) (nm : Int64) (cd : Int32) (wt : Int32) (v : Int32)  : Met l yX1_hasFault wsX1_hasFault ({ frames := 1, cells := 0, slots := 0, locals := 20 }) (va_Pc [.ref a, .int v] (hk_Ro D g ti [(a, .inr (1, [f0, f1, f2, f3, .int ni, .int nn, .int no, .long nm, .int cd, .int wt]))])) (vp_Si (fun r => r = if v < 0 then 0 else if 2 * nn ≤ v then 0 else 1)) 0 0 (fun _ => False) := by
  refine Met.ofW (cc := cX1_hasFault) (maxL := 2) (ret := (some .boolean)) (by decide) rfl ?_
  intro p e s m args below meth c s₁ B hml hv
  obtain ⟨rfl, hP, hE⟩ := hv
  have hx := B.exec
  have hb := B.bytes
  have hr := B.returns
  have hts := atoms_spec (ws := wsX1_hasFault) B.pre
  have hown : s.vm.findClass RX1 = some m.cls := findClass_of_methodNamed B.named
  have hlocks := B.notSynchronized
  have hK := hE.1
  have hS : va_S (fun _ => False) s.heap s.heap [] := va_S.rf
  have hl := lv_entry ([.ref a, .int v]) (n := 2) (Nat.le_of_ble_eq_true rfl)
  rw [lg_entry_eq]
  generalize (lg_sl ([.ref a, .int v]) ++ List.replicate (2 - (lg_sl ([.ref a, .int v])).length) Slot.unset).toArray = ls at hl ⊢
  have hl : lv_has ls 2 [(0, .ref a), (1, .int v)] := hl
  refine lv_iload_n hx hb dX1_hasFault_0 rfl (lv_at hl 1 rfl) ?_
  refine lv_if_lt (tgt := 16) hx hb dX1_hasFault_1 (by decide) (fun c_1 => ?_) (fun c_1 => ?_)
  · have c_1h : v < (0 : Int32) := c_1
    refine lv_iconst (v := 0) hx hb dX1_hasFault_16 (by decide) ?_
    exact W.zret (v := 0) hx hb hr (hk_z0) (fun t ht hW => ⟨_, rfl, by rw [if_pos c_1], ht⟩) (fun _ h => by cases h) dX1_hasFault_17
  · have c_1h : ¬ v < (0 : Int32) := c_1
    refine lv_iload_n hx hb dX1_hasFault_4 rfl (lv_at hl 1 rfl) ?_
    refine lv_aload_n hx hb dX1_hasFault_5 rfl (lv_at hl 0 rfl) ?_
    refine hk_csi (va_runV (As := []) (rest := [.int v]) ⟨hx, hb, hml, hown, hts⟩ (c1_faults l D g ti a f0 f1 f2 f3 ni nn no nm cd wt ) (cwV 0 hts gX1_hasFault_X1_faults rfl rfl rfl (by decide +kernel) ⟨Nat.le_of_ble_eq_true rfl, Nat.le_of_ble_eq_true rfl⟩) (hk_roV hE hP hS 1 rfl rfl [0] rfl rfl) rfl rfl hl.1 rfl (lv_room (Nat.le_of_ble_eq_true rfl)) dX1_hasFault_6 ⟨Nat.zero_le _, Nat.zero_le _⟩) (fun r_2 hr_3 => ?_)
    subst hr_3
    refine lv_icmp_ge (tgt := 16) hx hb dX1_hasFault_9 (by decide) (fun c_4 => ?_) (fun c_4 => ?_)
    · have c_4h : (2 * nn) ≤ v := c_4
      refine lv_iconst (v := 0) hx hb dX1_hasFault_16 (by decide) ?_
      exact W.zret (v := 0) hx hb hr (hk_z0) (fun t ht hW => ⟨_, rfl, by rw [if_neg c_1, if_pos c_4], ht⟩) (fun _ h => by cases h) dX1_hasFault_17
    · have c_4h : ¬ (2 * nn) ≤ v := c_4
      refine lv_iconst (v := 1) hx hb dX1_hasFault_12 (by decide) ?_
      refine lv_goto (tgt := 17) hx hb dX1_hasFault_13 (by decide) ?_
      exact W.zret (v := 1) hx hb hr (hk_z1) (fun t ht hW => ⟨_, rfl, by rw [if_neg c_1, if_neg c_4], ht⟩) (fun _ h => by cases h) dX1_hasFault_17
set_option maxHeartbeats 4000000 in
set_option maxRecDepth 100000 in
theorem c1_hasWord (l : Launch) (D : va_G) (g : hk_G) (ti : Nat) (a : Nat) (f0 : Value) (f1 : Value) (f2 : Value) (f3 : Value) (ni : Int32) (nn : Int32) (no : Int32) (nm : Int64) (cd : Int32) (wt : Int32) (v : Int32)  : Met l yX1_hasWord wsX1_hasWord ({ frames := 0, cells := 0, slots := 0, locals := 0 }) (va_Pc [.ref a, .int v] (hk_Ro D g ti [(a, .inr (1, [f0, f1, f2, f3, .int ni, .int nn, .int no, .long nm, .int cd, .int wt]))])) (vp_Si (fun r => r = if v < 0 then 0 else if (1 : Int32) <<< (ni &&& 31) ≤ v then 0 else 1)) 0 0 (fun _ => False) := by
  refine Met.ofW (cc := cX1_hasWord) (maxL := 2) (ret := (some .boolean)) (by decide) rfl ?_
  intro p e s m args below meth c s₁ B hml hv
  obtain ⟨rfl, hP, hE⟩ := hv
  have hx := B.exec
  have hb := B.bytes
  have hr := B.returns
  have hts := atoms_spec (ws := wsX1_hasWord) B.pre
  have hown : s.vm.findClass RX1 = some m.cls := findClass_of_methodNamed B.named
  have hlocks := B.notSynchronized
  have hK := hE.1
  have hi1 : ∀ w ∈ wsX10, w ∈ wsX1_hasWord := fun w h => List.mem_cons_of_mem _ (List.mem_append_right _ h)
  have hS : va_S (fun _ => False) s.heap s.heap [] := va_S.rf
  have hl := lv_entry ([.ref a, .int v]) (n := 2) (Nat.le_of_ble_eq_true rfl)
  rw [lg_entry_eq]
  generalize (lg_sl ([.ref a, .int v]) ++ List.replicate (2 - (lg_sl ([.ref a, .int v])).length) Slot.unset).toArray = ls at hl ⊢
  have hl : lv_has ls 2 [(0, .ref a), (1, .int v)] := hl
  refine lv_iload_n hx hb dX1_hasWord_0 rfl (lv_at hl 1 rfl) ?_
  refine lv_if_lt (tgt := 18) hx hb dX1_hasWord_1 (by decide) (fun c_1 => ?_) (fun c_1 => ?_)
  · have c_1h : v < (0 : Int32) := c_1
    refine lv_iconst (v := 0) hx hb dX1_hasWord_18 (by decide) ?_
    exact W.zret (v := 0) hx hb hr (hk_z0) (fun t ht hW => ⟨_, rfl, by rw [if_pos c_1], ht⟩) (fun _ h => by cases h) dX1_hasWord_19
  · have c_1h : ¬ v < (0 : Int32) := c_1
    refine lv_iload_n hx hb dX1_hasWord_4 rfl (lv_at hl 1 rfl) ?_
    refine lv_iconst (v := 1) hx hb dX1_hasWord_5 (by decide) ?_
    refine lv_aload_n hx hb dX1_hasWord_6 rfl (lv_at hl 0 rfl) ?_
    refine va_get (D := D) (ci := 1) (v := .int ni) (C := RX1) (T := TX1) (N := 10) hx hb hts hi1 hown hK hP 0 rfl rfl 4 (by decide) (hts (.fieldLink RX1 30 "SelfCheckingCircuit$Circuit" "inputs" "I") (by decide +kernel)) (fun _ h9 => h9) rfl dX1_hasWord_7 ?_
    refine lv_ishl hx hb dX1_hasWord_10 ?_
    refine lv_icmp_ge (tgt := 18) hx hb dX1_hasWord_11 (by decide) (fun c_2 => ?_) (fun c_2 => ?_)
    · have c_2h : ((1 : Int32) <<< (ni &&& 31)) ≤ v := c_2
      refine lv_iconst (v := 0) hx hb dX1_hasWord_18 (by decide) ?_
      exact W.zret (v := 0) hx hb hr (hk_z0) (fun t ht hW => ⟨_, rfl, by rw [if_neg c_1, if_pos c_2], ht⟩) (fun _ h => by cases h) dX1_hasWord_19
    · have c_2h : ¬ ((1 : Int32) <<< (ni &&& 31)) ≤ v := c_2
      refine lv_iconst (v := 1) hx hb dX1_hasWord_14 (by decide) ?_
      refine lv_goto (tgt := 19) hx hb dX1_hasWord_15 (by decide) ?_
      exact W.zret (v := 1) hx hb hr (hk_z1) (fun t ht hW => ⟨_, rfl, by rw [if_neg c_1, if_neg c_2], ht⟩) (fun _ h => by cases h) dX1_hasWord_19
set_option maxHeartbeats 4000000 in
set_option maxRecDepth 100000 in
theorem c1_hasRoomFor (l : Launch) (D : va_G) (g : hk_G) (ti : Nat) (a : Nat) (f0 : Value) (f1 : Value) (f2 : Value) (f3 : Value) (ni : Int32) (nn : Int32) (no : Int32) (nm : Int64) (cd : Int32) (wt : Int32) (k : Int32)  : Met l yX1_hasRoomFor wsX1_hasRoomFor ({ frames := 1, cells := 0, slots := 0, locals := 20 }) (va_Pc [.ref a, .int k] (hk_Ro D g ti [(a, .inr (1, [f0, f1, f2, f3, .int ni, .int nn, .int no, .long nm, .int cd, .int wt]))])) (vp_Si (fun r => r = if 24 < (nn - ni) + k then 0 else 1)) 0 0 (fun _ => False) := by
  refine Met.ofW (cc := cX1_hasRoomFor) (maxL := 2) (ret := (some .boolean)) (by decide) rfl ?_
  intro p e s m args below meth c s₁ B hml hv
  obtain ⟨rfl, hP, hE⟩ := hv
  have hx := B.exec
  have hb := B.bytes
  have hr := B.returns
  have hts := atoms_spec (ws := wsX1_hasRoomFor) B.pre
  have hown : s.vm.findClass RX1 = some m.cls := findClass_of_methodNamed B.named
  have hlocks := B.notSynchronized
  have hK := hE.1
  have hS : va_S (fun _ => False) s.heap s.heap [] := va_S.rf
  have hl := lv_entry ([.ref a, .int k]) (n := 2) (Nat.le_of_ble_eq_true rfl)
  rw [lg_entry_eq]
  generalize (lg_sl ([.ref a, .int k]) ++ List.replicate (2 - (lg_sl ([.ref a, .int k])).length) Slot.unset).toArray = ls at hl ⊢
  have hl : lv_has ls 2 [(0, .ref a), (1, .int k)] := hl
  refine lv_aload_n hx hb dX1_hasRoomFor_0 rfl (lv_at hl 0 rfl) ?_
  refine hk_csi (va_runV (As := []) (rest := []) ⟨hx, hb, hml, hown, hts⟩ (c1_gates l D g ti a f0 f1 f2 f3 ni nn no nm cd wt ) (cwV 0 hts gX1_hasRoomFor_X1_gates rfl rfl rfl (by decide +kernel) ⟨Nat.le_of_ble_eq_true rfl, Nat.le_of_ble_eq_true rfl⟩) (hk_roV hE hP hS 1 rfl rfl [0] rfl rfl) rfl rfl hl.1 rfl (lv_room (Nat.le_of_ble_eq_true rfl)) dX1_hasRoomFor_1 ⟨Nat.zero_le _, Nat.zero_le _⟩) (fun r_1 hr_2 => ?_)
  subst hr_2
  refine lv_iload_n hx hb dX1_hasRoomFor_4 rfl (lv_at hl 1 rfl) ?_
  refine lv_iadd hx hb dX1_hasRoomFor_5 ?_
  refine lv_bipush (v := 24) hx hb dX1_hasRoomFor_6 (by decide) ?_
  refine lv_icmp_gt (tgt := 15) hx hb dX1_hasRoomFor_8 (by decide) (fun c_3 => ?_) (fun c_3 => ?_)
  · have c_3h : (24 : Int32) < ((nn - ni) + k) := c_3
    refine lv_iconst (v := 0) hx hb dX1_hasRoomFor_15 (by decide) ?_
    exact W.zret (v := 0) hx hb hr (hk_z0) (fun t ht hW => ⟨_, rfl, by rw [if_pos c_3], ht⟩) (fun _ h => by cases h) dX1_hasRoomFor_16
  · have c_3h : ¬ (24 : Int32) < ((nn - ni) + k) := c_3
    refine lv_iconst (v := 1) hx hb dX1_hasRoomFor_11 (by decide) ?_
    refine lv_goto (tgt := 16) hx hb dX1_hasRoomFor_12 (by decide) ?_
    exact W.zret (v := 1) hx hb hr (hk_z1) (fun t ht hW => ⟨_, rfl, by rw [if_neg c_3], ht⟩) (fun _ h => by cases h) dX1_hasRoomFor_16
set_option maxHeartbeats 4000000 in
set_option maxRecDepth 100000 in
theorem c1_type (l : Launch) (D : va_G) (g : hk_G) (ti : Nat) (a : Nat) (f1 : Value) (f2 : Value) (f3 : Value) (t : Nat) (ft : Nat → Int32) (ni : Int32) (nn : Int32) (no : Int32) (nm : Int64) (cd : Int32) (wt : Int32) (v : Int32)  : Met l yX1_type wsX1_type ({ frames := 0, cells := 0, slots := 0, locals := 0 }) (va_Pc [.ref a, .int v] (hk_Ro D g ti [(a, .inr (1, [.ref t, f1, f2, f3, .int ni, .int nn, .int no, .long nm, .int cd, .int wt])), (t, .inl (g.2.1, 30, .inl ft))])) (vp_Si (fun r => r = if v < 0 then (-101) else if 30 ≤ v then (-101) else ft v.toNatClampNeg)) 0 0 (fun _ => False) := by
  refine Met.ofW (cc := cX1_type) (maxL := 2) (ret := (some .int)) (by decide) rfl ?_
  intro p e s m args below meth c s₁ B hml hv
  obtain ⟨rfl, hP, hE⟩ := hv
  have hx := B.exec
  have hb := B.bytes
  have hr := B.returns
  have hts := atoms_spec (ws := wsX1_type) B.pre
  have hown : s.vm.findClass RX1 = some m.cls := findClass_of_methodNamed B.named
  have hlocks := B.notSynchronized
  have hK := hE.1
  have hi1 : ∀ w ∈ wsX10, w ∈ wsX1_type := fun w h => List.mem_cons_of_mem _ (List.mem_append_right _ h)
  have hS : va_S (fun _ => False) s.heap s.heap [] := va_S.rf
  have hl := lv_entry ([.ref a, .int v]) (n := 2) (Nat.le_of_ble_eq_true rfl)
  rw [lg_entry_eq]
  generalize (lg_sl ([.ref a, .int v]) ++ List.replicate (2 - (lg_sl ([.ref a, .int v])).length) Slot.unset).toArray = ls at hl ⊢
  have hl : lv_has ls 2 [(0, .ref a), (1, .int v)] := hl
  refine lv_iload_n hx hb dX1_type_0 rfl (lv_at hl 1 rfl) ?_
  refine lv_if_lt (tgt := 19) hx hb dX1_type_1 (by decide) (fun c_1 => ?_) (fun c_1 => ?_)
  · have c_1h : v < (0 : Int32) := c_1
    refine lv_bipush (v := (-101)) hx hb dX1_type_19 (by decide) ?_
    exact W.iret (v := (-101)) hx hb hr (fun t ht hW => ⟨_, rfl, by rw [if_pos c_1], ht⟩) (fun _ h => by cases h) dX1_type_21
  · have c_1h : ¬ v < (0 : Int32) := c_1
    refine lv_iload_n hx hb dX1_type_4 rfl (lv_at hl 1 rfl) ?_
    refine lv_bipush (v := 30) hx hb dX1_type_5 (by decide) ?_
    refine lv_icmp_ge (tgt := 19) hx hb dX1_type_7 (by decide) (fun c_2 => ?_) (fun c_2 => ?_)
    · have c_2h : (30 : Int32) ≤ v := c_2
      refine lv_bipush (v := (-101)) hx hb dX1_type_19 (by decide) ?_
      exact W.iret (v := (-101)) hx hb hr (fun t ht hW => ⟨_, rfl, by rw [if_neg c_1, if_pos c_2], ht⟩) (fun _ h => by cases h) dX1_type_21
    · have c_2h : ¬ (30 : Int32) ≤ v := c_2
      refine lv_aload_n hx hb dX1_type_10 rfl (lv_at hl 0 rfl) ?_
      refine va_get (D := D) (ci := 1) (v := .ref t) (C := RX1) (T := TX1) (N := 10) hx hb hts hi1 hown hK hP 0 rfl rfl 0 (by decide) (hts (.fieldLink RX1 9 "SelfCheckingCircuit$Circuit" "types" "[I") (by decide +kernel)) (fun _ h9 => h9) rfl dX1_type_11 ?_
      refine lv_iload_n hx hb dX1_type_14 rfl (lv_at hl 1 rfl) ?_
      refine va_iald hx hb hK hP 1 1 rfl rfl (hk_inR (n := 30) (by decide) (by decide) c_1 c_2) dX1_type_15 ?_
      refine lv_goto (tgt := 21) hx hb dX1_type_16 (by decide) ?_
      exact W.iret (v := (ft v.toNatClampNeg)) hx hb hr (fun t ht hW => ⟨_, rfl, by rw [if_neg c_1, if_neg c_2], ht⟩) (fun _ h => by cases h) dX1_type_21
set_option maxHeartbeats 4000000 in
set_option maxRecDepth 100000 in
theorem c1_first (l : Launch) (D : va_G) (g : hk_G) (ti : Nat) (a : Nat) (f0 : Value) (f2 : Value) (f3 : Value) (t : Nat) (fa : Nat → Int32) (ni : Int32) (nn : Int32) (no : Int32) (nm : Int64) (cd : Int32) (wt : Int32) (v : Int32)  : Met l yX1_first wsX1_first ({ frames := 0, cells := 0, slots := 0, locals := 0 }) (va_Pc [.ref a, .int v] (hk_Ro D g ti [(a, .inr (1, [f0, .ref t, f2, f3, .int ni, .int nn, .int no, .long nm, .int cd, .int wt])), (t, .inl (g.2.1, 30, .inl fa))])) (vp_Si (fun r => r = if v < 0 then (-101) else if 30 ≤ v then (-101) else fa v.toNatClampNeg)) 0 0 (fun _ => False) := by
  refine Met.ofW (cc := cX1_first) (maxL := 2) (ret := (some .int)) (by decide) rfl ?_
  intro p e s m args below meth c s₁ B hml hv
  obtain ⟨rfl, hP, hE⟩ := hv
  have hx := B.exec
  have hb := B.bytes
  have hr := B.returns
  have hts := atoms_spec (ws := wsX1_first) B.pre
  have hown : s.vm.findClass RX1 = some m.cls := findClass_of_methodNamed B.named
  have hlocks := B.notSynchronized
  have hK := hE.1
  have hi1 : ∀ w ∈ wsX10, w ∈ wsX1_first := fun w h => List.mem_cons_of_mem _ (List.mem_append_right _ h)
  have hS : va_S (fun _ => False) s.heap s.heap [] := va_S.rf
  have hl := lv_entry ([.ref a, .int v]) (n := 2) (Nat.le_of_ble_eq_true rfl)
  rw [lg_entry_eq]
  generalize (lg_sl ([.ref a, .int v]) ++ List.replicate (2 - (lg_sl ([.ref a, .int v])).length) Slot.unset).toArray = ls at hl ⊢
  have hl : lv_has ls 2 [(0, .ref a), (1, .int v)] := hl
  refine lv_iload_n hx hb dX1_first_0 rfl (lv_at hl 1 rfl) ?_
  refine lv_if_lt (tgt := 19) hx hb dX1_first_1 (by decide) (fun c_1 => ?_) (fun c_1 => ?_)
  · have c_1h : v < (0 : Int32) := c_1
    refine lv_bipush (v := (-101)) hx hb dX1_first_19 (by decide) ?_
    exact W.iret (v := (-101)) hx hb hr (fun t ht hW => ⟨_, rfl, by rw [if_pos c_1], ht⟩) (fun _ h => by cases h) dX1_first_21
  · have c_1h : ¬ v < (0 : Int32) := c_1
    refine lv_iload_n hx hb dX1_first_4 rfl (lv_at hl 1 rfl) ?_
    refine lv_bipush (v := 30) hx hb dX1_first_5 (by decide) ?_
    refine lv_icmp_ge (tgt := 19) hx hb dX1_first_7 (by decide) (fun c_2 => ?_) (fun c_2 => ?_)
    · have c_2h : (30 : Int32) ≤ v := c_2
      refine lv_bipush (v := (-101)) hx hb dX1_first_19 (by decide) ?_
      exact W.iret (v := (-101)) hx hb hr (fun t ht hW => ⟨_, rfl, by rw [if_neg c_1, if_pos c_2], ht⟩) (fun _ h => by cases h) dX1_first_21
    · have c_2h : ¬ (30 : Int32) ≤ v := c_2
      refine lv_aload_n hx hb dX1_first_10 rfl (lv_at hl 0 rfl) ?_
      refine va_get (D := D) (ci := 1) (v := .ref t) (C := RX1) (T := TX1) (N := 10) hx hb hts hi1 hown hK hP 0 rfl rfl 1 (by decide) (hts (.fieldLink RX1 15 "SelfCheckingCircuit$Circuit" "firsts" "[I") (by decide +kernel)) (fun _ h9 => h9) rfl dX1_first_11 ?_
      refine lv_iload_n hx hb dX1_first_14 rfl (lv_at hl 1 rfl) ?_
      refine va_iald hx hb hK hP 1 1 rfl rfl (hk_inR (n := 30) (by decide) (by decide) c_1 c_2) dX1_first_15 ?_
      refine lv_goto (tgt := 21) hx hb dX1_first_16 (by decide) ?_
      exact W.iret (v := (fa v.toNatClampNeg)) hx hb hr (fun t ht hW => ⟨_, rfl, by rw [if_neg c_1, if_neg c_2], ht⟩) (fun _ h => by cases h) dX1_first_21
set_option maxHeartbeats 4000000 in
set_option maxRecDepth 100000 in
theorem c1_second (l : Launch) (D : va_G) (g : hk_G) (ti : Nat) (a : Nat) (f0 : Value) (f1 : Value) (f3 : Value) (t : Nat) (fb : Nat → Int32) (ni : Int32) (nn : Int32) (no : Int32) (nm : Int64) (cd : Int32) (wt : Int32) (v : Int32)  : Met l yX1_second wsX1_second ({ frames := 0, cells := 0, slots := 0, locals := 0 }) (va_Pc [.ref a, .int v] (hk_Ro D g ti [(a, .inr (1, [f0, f1, .ref t, f3, .int ni, .int nn, .int no, .long nm, .int cd, .int wt])), (t, .inl (g.2.1, 30, .inl fb))])) (vp_Si (fun r => r = if v < 0 then (-101) else if 30 ≤ v then (-101) else fb v.toNatClampNeg)) 0 0 (fun _ => False) := by
  refine Met.ofW (cc := cX1_second) (maxL := 2) (ret := (some .int)) (by decide) rfl ?_
  intro p e s m args below meth c s₁ B hml hv
  obtain ⟨rfl, hP, hE⟩ := hv
  have hx := B.exec
  have hb := B.bytes
  have hr := B.returns
  have hts := atoms_spec (ws := wsX1_second) B.pre
  have hown : s.vm.findClass RX1 = some m.cls := findClass_of_methodNamed B.named
  have hlocks := B.notSynchronized
  have hK := hE.1
  have hi1 : ∀ w ∈ wsX10, w ∈ wsX1_second := fun w h => List.mem_cons_of_mem _ (List.mem_append_right _ h)
  have hS : va_S (fun _ => False) s.heap s.heap [] := va_S.rf
  have hl := lv_entry ([.ref a, .int v]) (n := 2) (Nat.le_of_ble_eq_true rfl)
  rw [lg_entry_eq]
  generalize (lg_sl ([.ref a, .int v]) ++ List.replicate (2 - (lg_sl ([.ref a, .int v])).length) Slot.unset).toArray = ls at hl ⊢
  have hl : lv_has ls 2 [(0, .ref a), (1, .int v)] := hl
  refine lv_iload_n hx hb dX1_second_0 rfl (lv_at hl 1 rfl) ?_
  refine lv_if_lt (tgt := 19) hx hb dX1_second_1 (by decide) (fun c_1 => ?_) (fun c_1 => ?_)
  · have c_1h : v < (0 : Int32) := c_1
    refine lv_bipush (v := (-101)) hx hb dX1_second_19 (by decide) ?_
    exact W.iret (v := (-101)) hx hb hr (fun t ht hW => ⟨_, rfl, by rw [if_pos c_1], ht⟩) (fun _ h => by cases h) dX1_second_21
  · have c_1h : ¬ v < (0 : Int32) := c_1
    refine lv_iload_n hx hb dX1_second_4 rfl (lv_at hl 1 rfl) ?_
    refine lv_bipush (v := 30) hx hb dX1_second_5 (by decide) ?_
    refine lv_icmp_ge (tgt := 19) hx hb dX1_second_7 (by decide) (fun c_2 => ?_) (fun c_2 => ?_)
    · have c_2h : (30 : Int32) ≤ v := c_2
      refine lv_bipush (v := (-101)) hx hb dX1_second_19 (by decide) ?_
      exact W.iret (v := (-101)) hx hb hr (fun t ht hW => ⟨_, rfl, by rw [if_neg c_1, if_pos c_2], ht⟩) (fun _ h => by cases h) dX1_second_21
    · have c_2h : ¬ (30 : Int32) ≤ v := c_2
      refine lv_aload_n hx hb dX1_second_10 rfl (lv_at hl 0 rfl) ?_
      refine va_get (D := D) (ci := 1) (v := .ref t) (C := RX1) (T := TX1) (N := 10) hx hb hts hi1 hown hK hP 0 rfl rfl 2 (by decide) (hts (.fieldLink RX1 18 "SelfCheckingCircuit$Circuit" "seconds" "[I") (by decide +kernel)) (fun _ h9 => h9) rfl dX1_second_11 ?_
      refine lv_iload_n hx hb dX1_second_14 rfl (lv_at hl 1 rfl) ?_
      refine va_iald hx hb hK hP 1 1 rfl rfl (hk_inR (n := 30) (by decide) (by decide) c_1 c_2) dX1_second_15 ?_
      refine lv_goto (tgt := 21) hx hb dX1_second_16 (by decide) ?_
      exact W.iret (v := (fb v.toNatClampNeg)) hx hb hr (fun t ht hW => ⟨_, rfl, by rw [if_neg c_1, if_neg c_2], ht⟩) (fun _ h => by cases h) dX1_second_21
set_option maxHeartbeats 4000000 in
set_option maxRecDepth 100000 in
theorem c1_nodeOfOutput (l : Launch) (D : va_G) (g : hk_G) (ti : Nat) (a : Nat) (f0 : Value) (f1 : Value) (f2 : Value) (t : Nat) (fo : Nat → Int32) (ni : Int32) (nn : Int32) (no : Int32) (nm : Int64) (cd : Int32) (wt : Int32) (v : Int32)  : Met l yX1_nodeOfOutput wsX1_nodeOfOutput ({ frames := 0, cells := 0, slots := 0, locals := 0 }) (va_Pc [.ref a, .int v] (hk_Ro D g ti [(a, .inr (1, [f0, f1, f2, .ref t, .int ni, .int nn, .int no, .long nm, .int cd, .int wt])), (t, .inl (g.2.1, 6, .inl fo))])) (vp_Si (fun r => r = if v < 0 then (-101) else if 6 ≤ v then (-101) else fo v.toNatClampNeg)) 0 0 (fun _ => False) := by
  refine Met.ofW (cc := cX1_nodeOfOutput) (maxL := 2) (ret := (some .int)) (by decide) rfl ?_
  intro p e s m args below meth c s₁ B hml hv
  obtain ⟨rfl, hP, hE⟩ := hv
  have hx := B.exec
  have hb := B.bytes
  have hr := B.returns
  have hts := atoms_spec (ws := wsX1_nodeOfOutput) B.pre
  have hown : s.vm.findClass RX1 = some m.cls := findClass_of_methodNamed B.named
  have hlocks := B.notSynchronized
  have hK := hE.1
  have hi1 : ∀ w ∈ wsX10, w ∈ wsX1_nodeOfOutput := fun w h => List.mem_cons_of_mem _ (List.mem_append_right _ h)
  have hS : va_S (fun _ => False) s.heap s.heap [] := va_S.rf
  have hl := lv_entry ([.ref a, .int v]) (n := 2) (Nat.le_of_ble_eq_true rfl)
  rw [lg_entry_eq]
  generalize (lg_sl ([.ref a, .int v]) ++ List.replicate (2 - (lg_sl ([.ref a, .int v])).length) Slot.unset).toArray = ls at hl ⊢
  have hl : lv_has ls 2 [(0, .ref a), (1, .int v)] := hl
  refine lv_iload_n hx hb dX1_nodeOfOutput_0 rfl (lv_at hl 1 rfl) ?_
  refine lv_if_lt (tgt := 19) hx hb dX1_nodeOfOutput_1 (by decide) (fun c_1 => ?_) (fun c_1 => ?_)
  · have c_1h : v < (0 : Int32) := c_1
    refine lv_bipush (v := (-101)) hx hb dX1_nodeOfOutput_19 (by decide) ?_
    exact W.iret (v := (-101)) hx hb hr (fun t ht hW => ⟨_, rfl, by rw [if_pos c_1], ht⟩) (fun _ h => by cases h) dX1_nodeOfOutput_21
  · have c_1h : ¬ v < (0 : Int32) := c_1
    refine lv_iload_n hx hb dX1_nodeOfOutput_4 rfl (lv_at hl 1 rfl) ?_
    refine lv_bipush (v := 6) hx hb dX1_nodeOfOutput_5 (by decide) ?_
    refine lv_icmp_ge (tgt := 19) hx hb dX1_nodeOfOutput_7 (by decide) (fun c_2 => ?_) (fun c_2 => ?_)
    · have c_2h : (6 : Int32) ≤ v := c_2
      refine lv_bipush (v := (-101)) hx hb dX1_nodeOfOutput_19 (by decide) ?_
      exact W.iret (v := (-101)) hx hb hr (fun t ht hW => ⟨_, rfl, by rw [if_neg c_1, if_pos c_2], ht⟩) (fun _ h => by cases h) dX1_nodeOfOutput_21
    · have c_2h : ¬ (6 : Int32) ≤ v := c_2
      refine lv_aload_n hx hb dX1_nodeOfOutput_10 rfl (lv_at hl 0 rfl) ?_
      refine va_get (D := D) (ci := 1) (v := .ref t) (C := RX1) (T := TX1) (N := 10) hx hb hts hi1 hown hK hP 0 rfl rfl 3 (by decide) (hts (.fieldLink RX1 21 "SelfCheckingCircuit$Circuit" "outputNodes" "[I") (by decide +kernel)) (fun _ h9 => h9) rfl dX1_nodeOfOutput_11 ?_
      refine lv_iload_n hx hb dX1_nodeOfOutput_14 rfl (lv_at hl 1 rfl) ?_
      refine va_iald hx hb hK hP 1 1 rfl rfl (hk_inR (n := 6) (by decide) (by decide) c_1 c_2) dX1_nodeOfOutput_15 ?_
      refine lv_goto (tgt := 21) hx hb dX1_nodeOfOutput_16 (by decide) ?_
      exact W.iret (v := (fo v.toNatClampNeg)) hx hb hr (fun t ht hW => ⟨_, rfl, by rw [if_neg c_1, if_neg c_2], ht⟩) (fun _ h => by cases h) dX1_nodeOfOutput_21
theorem hk_rd {f : Nat → Int32} {i n : Nat} {d k : Int32} (hi : i < n) (hn : n < 2 ^ 31) (hk : k = nI n) : (if nI i < 0 then d else if k ≤ nI i then d else f (nI i).toNatClampNeg) = f i := by
  rw [if_neg (nI_pos (by omega)), if_neg (by rw [hk]; exact nI_ge hi hn), nI_clamp (by omega)]
set_option maxHeartbeats 4000000 in
set_option maxRecDepth 100000 in
theorem c1_isOutput (l : Launch) (D : va_G) (g : hk_G) (ti : Nat) (a : Nat) (f0 : Value) (f1 : Value) (f2 : Value) (t : Nat) (fo : Nat → Int32) (ni : Int32) (nn : Int32) (no : Int32) (nm : Int64) (cd : Int32) (wt : Int32) (o : Nat) (v : Int32) (ho : no = nI o) (h6 : o ≤ 6) : Met l yX1_isOutput wsX1_isOutput ({ frames := 1, cells := 0, slots := 0, locals := 21 }) (va_Pc [.ref a, .int v] (hk_Ro D g ti [(a, .inr (1, [f0, f1, f2, .ref t, .int ni, .int nn, .int no, .long nm, .int cd, .int wt])), (t, .inl (g.2.1, 6, .inl fo))])) (vp_Si (fun r => r = if (∃ k, k < o ∧ fo k = v) then 1 else 0)) 0 0 (fun _ => False) := by
  refine Met.ofW (cc := cX1_isOutput) (maxL := 3) (ret := (some .boolean)) (by decide) rfl ?_
  intro p e s m args below meth c s₁ B hml hv
  obtain ⟨rfl, hP, hE⟩ := hv
  have hx := B.exec
  have hb := B.bytes
  have hr := B.returns
  have hts := atoms_spec (ws := wsX1_isOutput) B.pre
  have hown : s.vm.findClass RX1 = some m.cls := findClass_of_methodNamed B.named
  have hlocks := B.notSynchronized
  have hK := hE.1
  have hi1 : ∀ w ∈ wsX10, w ∈ wsX1_isOutput := fun w h => List.mem_cons_of_mem _ (List.mem_append_right _ h)
  have hS : va_S (fun _ => False) s.heap s.heap [] := va_S.rf
  have hl := lv_entry ([.ref a, .int v]) (n := 3) (Nat.le_of_ble_eq_true rfl)
  rw [lg_entry_eq]
  generalize (lg_sl ([.ref a, .int v]) ++ List.replicate (3 - (lg_sl ([.ref a, .int v])).length) Slot.unset).toArray = ls at hl ⊢
  have hl : lv_has ls 3 [(0, .ref a), (1, .int v)] := hl
  refine lv_iconst (v := 0) hx hb dX1_isOutput_0 (by decide) ?_
  refine lv_istore_n (lv' := [(2, .int 0), (0, .ref a), (1, .int v)]) hx hb dX1_isOutput_1 rfl hl (by decide) rfl (fun ls hl => ?_)
  have loop2 : ∀ (n : Nat) (i : Nat), (o - i) < n → (i ≤ o) → (∀ k, k < i → ¬ fo k = v) → ∀ ls : Array Slot, lv_has ls 3 [(2, .int (nI i)), (0, .ref a), (1, .int v)] → W p l e (headSpec wsX1_isOutput ({ frames := 1, cells := 0, slots := 0, locals := 21 })).room s m ([.ref a, .int v] : List Value).toArray below meth c s.heap [] 0 0 (MQ below (vp_Si (fun r => r = if (∃ k, k < o ∧ fo k = v) then 1 else 0)) ([.ref a, .int v] : List Value).toArray s 0 0 (fun _ => False)) (F0 m 2 ls []) := by
    intro n
    induction n with
    | zero => intro i hm; exact absurd hm (Nat.not_lt_zero _)
    | succ n ih_2 =>
      intro i hm_2 hi hno ls hl
      refine lv_iload_n hx hb dX1_isOutput_2 rfl (lv_at hl 0 rfl) ?_
      refine lv_aload_n hx hb dX1_isOutput_3 rfl (lv_at hl 1 rfl) ?_
      refine va_get (D := D) (ci := 1) (v := .int no) (C := RX1) (T := TX1) (N := 10) hx hb hts hi1 hown hK hP 0 rfl rfl 6 (by decide) (hts (.fieldLink RX1 37 "SelfCheckingCircuit$Circuit" "outputs" "I") (by decide +kernel)) (fun _ h9 => h9) rfl dX1_isOutput_4 ?_
      refine lv_icmp_ge (tgt := 27) hx hb dX1_isOutput_7 (by decide) (fun c_1 => ?_) (fun c_1 => ?_)
      · have c_1h : no ≤ nI i := c_1
        refine lv_iconst (v := 0) hx hb dX1_isOutput_27 (by decide) ?_
        exact W.zret (v := 0) hx hb hr (hk_z0) (fun t ht hW => ⟨_, rfl, by rw [if_neg]; rintro ⟨k, hk, hkv⟩; exact hno k (by have := (nI_leI (by omega) (by omega)).mp (ho ▸ c_1); omega) hkv, ht⟩) (fun _ h => by cases h) dX1_isOutput_28
      · have c_1h : ¬ no ≤ nI i := c_1
        refine lv_aload_n hx hb dX1_isOutput_10 rfl (lv_at hl 1 rfl) ?_
        refine lv_iload_n hx hb dX1_isOutput_11 rfl (lv_at hl 0 rfl) ?_
        refine hk_csi (va_runV (As := [.int (nI i)]) (rest := []) ⟨hx, hb, hml, hown, hts⟩ (c1_nodeOfOutput l D g ti a f0 f1 f2 t fo ni nn no nm cd wt (nI i) ) (cwV 1 hts gX1_isOutput_X1_nodeOfOutput rfl rfl rfl (by decide +kernel) ⟨Nat.le_of_ble_eq_true rfl, Nat.le_of_ble_eq_true rfl⟩) (hk_roV hE hP hS 1 rfl rfl [0, 1] rfl rfl) rfl rfl hl.1 rfl (lv_room (Nat.le_of_ble_eq_true rfl)) dX1_isOutput_12 ⟨Nat.zero_le _, Nat.zero_le _⟩) (fun r_2 hr_3 => ?_)
        subst hr_3
        refine hk_ti (fo i) (hk_rd (n := 6) (by have := mt (nI_leI (a := o) (b := i) (by omega) (by omega)).mpr (ho ▸ c_1); omega) (by decide) rfl) ?_
        refine lv_iload_n hx hb dX1_isOutput_15 rfl (lv_at hl 2 rfl) ?_
        refine lv_icmp_ne (tgt := 21) hx hb dX1_isOutput_16 (by decide) (fun c_4 => ?_) (fun c_4 => ?_)
        · have c_4h : ¬ (fo i) = v := c_4
          refine lv_iinc (v := (nI (i + 1))) (lv' := [(2, .int (nI (i + 1))), (0, .ref a), (1, .int v)]) hx hb dX1_isOutput_21 hl (k := 0) rfl (nI_1 i) (by decide) rfl (fun ls hl => ?_)
          refine lv_goto (tgt := 2) hx hb dX1_isOutput_24 (by decide) ?_
          have hlt : i < o := by have := mt (nI_leI (a := o) (b := i) (by omega) (by omega)).mpr (ho ▸ c_1); omega
          exact ih_2 (i + 1) (by omega) (by omega) (fun k hk => (Nat.lt_succ_iff_lt_or_eq.mp hk).elim (hno k) (fun e => e ▸ c_4)) _ (lv_sub hl [0, 1, 2] rfl)
        · have c_4h : (fo i) = v := c_4
          refine lv_iconst (v := 1) hx hb dX1_isOutput_19 (by decide) ?_
          exact W.zret (v := 1) hx hb hr (hk_z1) (fun t ht hW => ⟨_, rfl, by rw [if_pos]; exact ⟨i, by have := mt (nI_leI (a := o) (b := i) (by omega) (by omega)).mpr (ho ▸ c_1); omega, c_4⟩, ht⟩) (fun _ h => by cases h) dX1_isOutput_20
  exact loop2 _ 0 (Nat.lt_succ_self _) (Nat.zero_le _) (fun _ h => absurd h (Nat.not_lt_zero _)) _ (lv_sub hl [0, 1, 2] rfl)
