def hk_by (j : Nat) : Int32 := [105, 52, 59, 103, 48, 44, 48, 44, 50, 59, 103, 48, 44, 49, 44, 51, 59, 103, 49, 44, 52, 44, 53, 59, 103, 48, 44, 48, 44, 51, 59, 103, 48, 44, 49, 44, 50, 59, 103, 49, 44, 55, 44, 56, 59, 111, 54, 59, 111, 57, 59, 119, 53, 59, 119, 54, 59, 119, 57, 59, 119, 49, 48, 59].getD j 0
/-- the String constant, what its class and the check of an index read -/
def hk_T (sa sv : Nat) (A : Nat → Prop) (U : State) (H : Heap) : Prop := va_O RJ0 sa A U H ∧ va_OF RJ0 "coder" "B" (.int 0) sa A U H ∧ va_OF RJ0 "value" "[B" (.ref sv) sa A U H ∧ va_T .byte sv 64 (fun j => .int (hk_by j)) A U H ∧ va_Z RJ0 "COMPACT_STRINGS" "Z" (.int 1) A U H ∧ va_Zq RJ3 "SIOOBE_FORMATTER" "Ljava/util/function/BiFunction;" A U H ∧ vk_R RX5 52 "i4;g0,0,2;g0,1,3;g1,4,5;g0,0,3;g0,1,2;g1,7,8;o6;o9;w5;w6;w9;w10;" sa U
theorem hk_T.calling {sa sv : Nat} {A : Nat → Prop} {U : State} {H : Heap} {gg : JFrame} {mk : MethodId} {a : Array Value} (h : hk_T sa sv A U H) : hk_T sa sv A (U.calling gg mk a) H :=
  ⟨va_O.moved (u := U) (U := U.calling gg mk a) (Vm.Alike.refl U.vm) h.1, va_OF.moved (u := U) (U := U.calling gg mk a) (Vm.Alike.refl U.vm) h.2.1, va_OF.moved (u := U) (U := U.calling gg mk a) (Vm.Alike.refl U.vm) h.2.2.1, va_T.moved (u := U) (U := U.calling gg mk a) (Vm.Alike.refl U.vm) h.2.2.2.1, va_Z.moved (u := U) (U := U.calling gg mk a) (Vm.Alike.refl U.vm) h.2.2.2.2.1, va_Zq.moved (u := U) (U := U.calling gg mk a) (Vm.Alike.refl U.vm) h.2.2.2.2.2.1, vk_R.same rfl h.2.2.2.2.2.2⟩
theorem hk_T.at {sa sv : Nat} {A B : Nat → Prop} {s U : State} {H : Heap} {locs : List Loc} (h : hk_T sa sv A s s.heap) (hS : va_S A s.heap H locs) (hB : ∀ q, B q → A q) (hU : U.heap = H) (hW : s.WarmedH U.vm) : hk_T sa sv B U U.heap := by
  rw [hU]
  exact ⟨va_O.moved hW.alike ((h.1.kept hS.2.1).narrow hB), va_OF.moved hW.alike ((h.2.1.kept hS.2.1).narrow hB), va_OF.moved hW.alike ((h.2.2.1.kept hS.2.1).narrow hB), va_T.moved hW.alike ((h.2.2.2.1.kept hS.2.1).narrow hB), va_Z.moved hW.alike ((h.2.2.2.2.1.kept hS.2.1).narrow hB), va_Zq.moved hW.alike ((h.2.2.2.2.2.1.kept hS.2.1).narrow hB), vk_R.warm hW h.2.2.2.2.2.2⟩
def hk_Sr (sa sv : Nat) (U : State) : Prop := hk_T sa sv (fun _ => False) U U.heap
def hk_InF (D : va_G) (g : hk_G) (ti sa sv : Nat) (ws : va_W) (sz : Nat) (U : State) : Prop := hk_In D g ti ws sz U ∧ va_AO "SelfCheckingCircuit$Circuit" U ∧ hk_T sa sv (va_A ws sz) U U.heap
theorem hk_bSr {av : List Value} {sa sv : Nat} : FrameBlind (va_Pc av (hk_Sr sa sv)) := fun _ _ _ _ h => ⟨h.1, hk_T.calling h.2⟩
theorem hk_bInF {av : List Value} {D : va_G} {g : hk_G} {ti sa sv : Nat} {ws : va_W} {sz : Nat} : FrameBlind (va_Pc av (hk_InF D g ti sa sv ws sz)) := fun _ U gg mk h => ⟨h.1, ⟨h.2.1.1, h.2.1.2.1, h.2.1.2.2.1, h.2.1.2.2.2.calling⟩, va_AO.moved (u := U) (Vm.Alike.refl U.vm) h.2.2.1, h.2.2.2.calling⟩
section HKS
variable {s : State} {H : Heap} {locs : List Loc} {D : va_G} {g : hk_G} {ti sa sv : Nat} {A : Nat → Prop} {ws wc : va_W} {As : List Value}
theorem hk_srV (hT : hk_T sa sv A s s.heap) (hS : va_S A s.heap H locs) : PreV s H RJ0 sa (va_Pc (.ref sa :: As) (hk_Sr sa sv)) As := by
  obtain ⟨cell, h1, h2, h3, -⟩ := hT.1.kept hS.2.1
  exact ⟨hk_bSr, ⟨cell, h1, h2, h3⟩, fun U hU hW => ⟨rfl, hT.at hS (fun _ h => h.elim) hU hW⟩⟩
theorem hk_srS (hT : hk_T sa sv A s s.heap) (hS : va_S A s.heap H locs) : PreS s H (va_Pc As (hk_Sr sa sv)) As := ⟨hk_bSr, fun U hU hW => ⟨rfl, hT.at hS (fun _ h => h.elim) hU hW⟩⟩
theorem hk_inF (hAO : va_AO "SelfCheckingCircuit$Circuit" s) (hT : hk_T sa sv A s s.heap) (hE : hk_E D g ti A s s.heap) (hP : va_P D vwCl ws H) (hD : va_D A ws) (hS : va_S A s.heap H locs) (hA : ∀ q, s.heap.size ≤ q → A q) (isC : List Nat) (hn : va_nd isC = true) (hC : isC.map (fun i => ws[i]?) = wc.map some) : PreS s H (va_Pc As (hk_InF D g ti sa sv wc H.size)) As := by
  have hPc := hP.sub (ws' := wc) isC (hk_fm hC)
  exact ⟨hk_bInF, fun U hU hW => ⟨rfl, ⟨by rw [hU], by rw [hU]; exact hPc, (hD.sub isC hn hC).weaken (fun _ _ _ _ => trivial), hE.at hS (va_free hD hS hA isC hC) hU hW⟩, va_AO.moved hW.alike hAO, hT.at hS (va_free hD hS hA isC hC) hU hW⟩⟩
end HKS
theorem by_d : ∀ k, k < 64 → (((hk_by k) &&& 255).toUInt32 % 65536).toInt32 = hk_by k ∧ narrow .char (.int (hk_by k)) = .int (hk_by k) := by decide +kernel
def hk_Sv : Array Value → State → Outcome → State → Prop := fun _ st oc t => oc = .returned none ∧ t.heap = st.heap
section HKV
variable {p : Program} {l : Launch} {e : Env} {R : Room} {s : State} {m : MethodId} {args : Array Value} {below : List Frame} {meth : Method} {c : Code} {H : Heap} {locs : List Loc} {cells slots : Nat} {Q : State → Prop}
variable {pc : Nat} {ls : Array Slot} {rest st0 : List Value} {a : Array Value}
theorem hk_csv (hr : va_Run p l e R s m args below meth c H locs cells slots 0 0 (F0 m pc ls st0) rest (hk_Sv a) (fun _ => False))
    (kk : W p l e R s m args below meth c H locs cells slots Q (F0 m (pc + 3) ls rest)) : W p l e R s m args below meth c H locs cells slots Q (F0 m pc ls st0) := by
  intro T hT X
  obtain ⟨v, st₀, t, T', L, h0, X', hL, e1, -, ⟨hv, hh⟩, st⟩ := hr T hT X
  cases hv
  obtain ⟨t2, a1, b1⟩ := kk T' (by rw [e1, hh, h0]) (Stand.forget X' (fun q h => (hL q h).elim))
  exact ⟨t2, st t2 a1, b1⟩
end HKV
