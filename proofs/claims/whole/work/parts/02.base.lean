def hk_F : List (String × Nat × String × String × String) := [(RX5, 71, RX2, "length", "I"), (RX4, 36, RX2, "length", "I"), (RX0, 108, RX1, "inputs", "I"), (RX5, 99, RX1, "nodes", "I"), (RX0, 96, RX1, "nodes", "I"), (RX0, 64, RX1, "outputs", "I"), (RX4, 105, RX1, "outputs", "I"), (RX5, 109, RX1, "outputs", "I"), (RX4, 45, RX1, "normal", "J"), (RX0, 52, RX1, "normal", "J"), (RX5, 119, RX1, "normal", "J"), (RX5, 48, RX1, "code", "I"), (RX0, 123, RX1, "code", "I"), (RX5, 131, RX1, "weight", "I"), (RX0, 129, RX1, "weight", "I"), (RX5, 194, RX4, "draft", "LSelfCheckingCircuit$Circuit;"), (RX5, 76, RX4, "errorStart", "I"), (RX5, 79, RX4, "reason", "I"), (RX5, 134, RX3, "count", "I")]
def hk_M : List (String × Nat × MethodName) := [(RX5, 11, yX2_init), (RX5, 18, yX4_init), (RX4, 11, yX1_init), (RX5, 27, yX1_init), (RX5, 34, yX3_init), (RX3, 17, yX1_init), (RX5, 41, yX0_init), (RX5, 64, yX2_put), (RX5, 73, yX4_read), (RX4, 53, yX2_at), (RX4, 89, yX1_begin), (RX4, 93, yX5_operandsOfType), (RX4, 96, yX1_hasNode), (RX4, 99, yX1_hasRoomFor), (RX4, 102, yX1_putGate), (RX4, 108, yX1_putOutput), (RX4, 111, yX1_hasWord), (RX4, 49, yX1_words), (RX5, 197, yX1_copyFrom), (RX5, 82, yX1_hasNode), (RX5, 86, yX1_hasRoomFor), (RX5, 89, yX3_save), (RX3, 22, yX1_copyFrom), (RX5, 92, yX1_putGate), (RX5, 96, yX1_gates), (RX5, 102, yX1_isOutput), (RX5, 105, yX1_type), (RX5, 112, yX1_putOutput), (RX5, 116, yX1_hasWord), (RX5, 137, yX3_restore), (RX5, 143, yX1_first), (RX5, 146, yX1_second), (RX5, 149, yX1_nodeOfOutput), (RX5, 156, yX1_hasFault), (RX5, 159, yX0_wordOut), (RX0, 114, yX1_first), (RX0, 117, yX1_second), (RX0, 120, yX1_type), (RX0, 102, yX1_nodeOfOutput), (RX0, 68, yX5_bit), (RX5, 163, yX0_isInCode), (RX5, 166, yX0_exposing), (RX5, 173, yX0_unsafe), (RX5, 176, yX1_faults), (RX5, 179, yX0_isDisjoint), (RX0, 47, yX1_words), (RX5, 183, yX0_normalOutputs), (RX5, 191, yX0_greedyWord), (RX0, 75, yX1_faults)]
def hk_N (U : State) : Prop := (∀ q ∈ hk_F, va_Nw (.fieldLinkNest q.1 q.2.1 q.2.2.1 q.2.2.2.1 q.2.2.2.2 RX5) U) ∧ ∀ q ∈ hk_M, va_Nw (.methodLinkNest q.1 q.2.1 q.2.2 RX5) U
theorem nf_X5_71 {U : State} {a : Array Value} (h : hk_N U) : (Cond.fieldLinkNest RX5 71 RX2 (TX2 1).2.1 (TX2 1).2.2.1 RX5).before a U = true := va_Nw.use (w := .fieldLinkNest RX5 71 RX2 "length" "I" RX5) rfl (h.1 (RX5, 71, RX2, "length", "I") (List.mem_of_getElem? (i := 0) rfl))
theorem nf_X4_36 {U : State} {a : Array Value} (h : hk_N U) : (Cond.fieldLinkNest RX4 36 RX2 (TX2 1).2.1 (TX2 1).2.2.1 RX5).before a U = true := va_Nw.use (w := .fieldLinkNest RX4 36 RX2 "length" "I" RX5) rfl (h.1 (RX4, 36, RX2, "length", "I") (List.mem_of_getElem? (i := 1) rfl))
theorem nf_X0_108 {U : State} {a : Array Value} (h : hk_N U) : (Cond.fieldLinkNest RX0 108 RX1 (TX1 4).2.1 (TX1 4).2.2.1 RX5).before a U = true := va_Nw.use (w := .fieldLinkNest RX0 108 RX1 "inputs" "I" RX5) rfl (h.1 (RX0, 108, RX1, "inputs", "I") (List.mem_of_getElem? (i := 2) rfl))
theorem nf_X5_99 {U : State} {a : Array Value} (h : hk_N U) : (Cond.fieldLinkNest RX5 99 RX1 (TX1 5).2.1 (TX1 5).2.2.1 RX5).before a U = true := va_Nw.use (w := .fieldLinkNest RX5 99 RX1 "nodes" "I" RX5) rfl (h.1 (RX5, 99, RX1, "nodes", "I") (List.mem_of_getElem? (i := 3) rfl))
theorem nf_X0_96 {U : State} {a : Array Value} (h : hk_N U) : (Cond.fieldLinkNest RX0 96 RX1 (TX1 5).2.1 (TX1 5).2.2.1 RX5).before a U = true := va_Nw.use (w := .fieldLinkNest RX0 96 RX1 "nodes" "I" RX5) rfl (h.1 (RX0, 96, RX1, "nodes", "I") (List.mem_of_getElem? (i := 4) rfl))
theorem nf_X0_64 {U : State} {a : Array Value} (h : hk_N U) : (Cond.fieldLinkNest RX0 64 RX1 (TX1 6).2.1 (TX1 6).2.2.1 RX5).before a U = true := va_Nw.use (w := .fieldLinkNest RX0 64 RX1 "outputs" "I" RX5) rfl (h.1 (RX0, 64, RX1, "outputs", "I") (List.mem_of_getElem? (i := 5) rfl))
theorem nf_X4_105 {U : State} {a : Array Value} (h : hk_N U) : (Cond.fieldLinkNest RX4 105 RX1 (TX1 6).2.1 (TX1 6).2.2.1 RX5).before a U = true := va_Nw.use (w := .fieldLinkNest RX4 105 RX1 "outputs" "I" RX5) rfl (h.1 (RX4, 105, RX1, "outputs", "I") (List.mem_of_getElem? (i := 6) rfl))
theorem nf_X5_109 {U : State} {a : Array Value} (h : hk_N U) : (Cond.fieldLinkNest RX5 109 RX1 (TX1 6).2.1 (TX1 6).2.2.1 RX5).before a U = true := va_Nw.use (w := .fieldLinkNest RX5 109 RX1 "outputs" "I" RX5) rfl (h.1 (RX5, 109, RX1, "outputs", "I") (List.mem_of_getElem? (i := 7) rfl))
theorem nf_X4_45 {U : State} {a : Array Value} (h : hk_N U) : (Cond.fieldLinkNest RX4 45 RX1 (TX1 7).2.1 (TX1 7).2.2.1 RX5).before a U = true := va_Nw.use (w := .fieldLinkNest RX4 45 RX1 "normal" "J" RX5) rfl (h.1 (RX4, 45, RX1, "normal", "J") (List.mem_of_getElem? (i := 8) rfl))
theorem nf_X0_52 {U : State} {a : Array Value} (h : hk_N U) : (Cond.fieldLinkNest RX0 52 RX1 (TX1 7).2.1 (TX1 7).2.2.1 RX5).before a U = true := va_Nw.use (w := .fieldLinkNest RX0 52 RX1 "normal" "J" RX5) rfl (h.1 (RX0, 52, RX1, "normal", "J") (List.mem_of_getElem? (i := 9) rfl))
theorem nf_X5_119 {U : State} {a : Array Value} (h : hk_N U) : (Cond.fieldLinkNest RX5 119 RX1 (TX1 7).2.1 (TX1 7).2.2.1 RX5).before a U = true := va_Nw.use (w := .fieldLinkNest RX5 119 RX1 "normal" "J" RX5) rfl (h.1 (RX5, 119, RX1, "normal", "J") (List.mem_of_getElem? (i := 10) rfl))
theorem nf_X5_48 {U : State} {a : Array Value} (h : hk_N U) : (Cond.fieldLinkNest RX5 48 RX1 (TX1 8).2.1 (TX1 8).2.2.1 RX5).before a U = true := va_Nw.use (w := .fieldLinkNest RX5 48 RX1 "code" "I" RX5) rfl (h.1 (RX5, 48, RX1, "code", "I") (List.mem_of_getElem? (i := 11) rfl))
theorem nf_X0_123 {U : State} {a : Array Value} (h : hk_N U) : (Cond.fieldLinkNest RX0 123 RX1 (TX1 8).2.1 (TX1 8).2.2.1 RX5).before a U = true := va_Nw.use (w := .fieldLinkNest RX0 123 RX1 "code" "I" RX5) rfl (h.1 (RX0, 123, RX1, "code", "I") (List.mem_of_getElem? (i := 12) rfl))
theorem nf_X5_131 {U : State} {a : Array Value} (h : hk_N U) : (Cond.fieldLinkNest RX5 131 RX1 (TX1 9).2.1 (TX1 9).2.2.1 RX5).before a U = true := va_Nw.use (w := .fieldLinkNest RX5 131 RX1 "weight" "I" RX5) rfl (h.1 (RX5, 131, RX1, "weight", "I") (List.mem_of_getElem? (i := 13) rfl))
theorem nf_X0_129 {U : State} {a : Array Value} (h : hk_N U) : (Cond.fieldLinkNest RX0 129 RX1 (TX1 9).2.1 (TX1 9).2.2.1 RX5).before a U = true := va_Nw.use (w := .fieldLinkNest RX0 129 RX1 "weight" "I" RX5) rfl (h.1 (RX0, 129, RX1, "weight", "I") (List.mem_of_getElem? (i := 14) rfl))
theorem nf_X5_194 {U : State} {a : Array Value} (h : hk_N U) : (Cond.fieldLinkNest RX5 194 RX4 (TX4 1).2.1 (TX4 1).2.2.1 RX5).before a U = true := va_Nw.use (w := .fieldLinkNest RX5 194 RX4 "draft" "LSelfCheckingCircuit$Circuit;" RX5) rfl (h.1 (RX5, 194, RX4, "draft", "LSelfCheckingCircuit$Circuit;") (List.mem_of_getElem? (i := 15) rfl))
theorem nf_X5_76 {U : State} {a : Array Value} (h : hk_N U) : (Cond.fieldLinkNest RX5 76 RX4 (TX4 5).2.1 (TX4 5).2.2.1 RX5).before a U = true := va_Nw.use (w := .fieldLinkNest RX5 76 RX4 "errorStart" "I" RX5) rfl (h.1 (RX5, 76, RX4, "errorStart", "I") (List.mem_of_getElem? (i := 16) rfl))
theorem nf_X5_79 {U : State} {a : Array Value} (h : hk_N U) : (Cond.fieldLinkNest RX5 79 RX4 (TX4 6).2.1 (TX4 6).2.2.1 RX5).before a U = true := va_Nw.use (w := .fieldLinkNest RX5 79 RX4 "reason" "I" RX5) rfl (h.1 (RX5, 79, RX4, "reason", "I") (List.mem_of_getElem? (i := 17) rfl))
theorem nf_X5_134 {U : State} {a : Array Value} (h : hk_N U) : (Cond.fieldLinkNest RX5 134 RX3 (TX3 2).2.1 (TX3 2).2.2.1 RX5).before a U = true := va_Nw.use (w := .fieldLinkNest RX5 134 RX3 "count" "I" RX5) rfl (h.1 (RX5, 134, RX3, "count", "I") (List.mem_of_getElem? (i := 18) rfl))
theorem nm_X5_11 {U : State} (h : hk_N U) : va_Nw (.methodLinkNest RX5 11 yX2_init RX5) U := h.2 (RX5, 11, yX2_init) (List.mem_of_getElem? (i := 0) rfl)
theorem nm_X5_18 {U : State} (h : hk_N U) : va_Nw (.methodLinkNest RX5 18 yX4_init RX5) U := h.2 (RX5, 18, yX4_init) (List.mem_of_getElem? (i := 1) rfl)
theorem nm_X4_11 {U : State} (h : hk_N U) : va_Nw (.methodLinkNest RX4 11 yX1_init RX5) U := h.2 (RX4, 11, yX1_init) (List.mem_of_getElem? (i := 2) rfl)
theorem nm_X5_27 {U : State} (h : hk_N U) : va_Nw (.methodLinkNest RX5 27 yX1_init RX5) U := h.2 (RX5, 27, yX1_init) (List.mem_of_getElem? (i := 3) rfl)
theorem nm_X5_34 {U : State} (h : hk_N U) : va_Nw (.methodLinkNest RX5 34 yX3_init RX5) U := h.2 (RX5, 34, yX3_init) (List.mem_of_getElem? (i := 4) rfl)
theorem nm_X3_17 {U : State} (h : hk_N U) : va_Nw (.methodLinkNest RX3 17 yX1_init RX5) U := h.2 (RX3, 17, yX1_init) (List.mem_of_getElem? (i := 5) rfl)
theorem nm_X5_41 {U : State} (h : hk_N U) : va_Nw (.methodLinkNest RX5 41 yX0_init RX5) U := h.2 (RX5, 41, yX0_init) (List.mem_of_getElem? (i := 6) rfl)
theorem nm_X5_64 {U : State} (h : hk_N U) : va_Nw (.methodLinkNest RX5 64 yX2_put RX5) U := h.2 (RX5, 64, yX2_put) (List.mem_of_getElem? (i := 7) rfl)
theorem nm_X5_73 {U : State} (h : hk_N U) : va_Nw (.methodLinkNest RX5 73 yX4_read RX5) U := h.2 (RX5, 73, yX4_read) (List.mem_of_getElem? (i := 8) rfl)
theorem nm_X4_53 {U : State} (h : hk_N U) : va_Nw (.methodLinkNest RX4 53 yX2_at RX5) U := h.2 (RX4, 53, yX2_at) (List.mem_of_getElem? (i := 9) rfl)
theorem nm_X4_89 {U : State} (h : hk_N U) : va_Nw (.methodLinkNest RX4 89 yX1_begin RX5) U := h.2 (RX4, 89, yX1_begin) (List.mem_of_getElem? (i := 10) rfl)
theorem nm_X4_93 {U : State} (h : hk_N U) : va_Nw (.methodLinkNest RX4 93 yX5_operandsOfType RX5) U := h.2 (RX4, 93, yX5_operandsOfType) (List.mem_of_getElem? (i := 11) rfl)
theorem nm_X4_96 {U : State} (h : hk_N U) : va_Nw (.methodLinkNest RX4 96 yX1_hasNode RX5) U := h.2 (RX4, 96, yX1_hasNode) (List.mem_of_getElem? (i := 12) rfl)
theorem nm_X4_99 {U : State} (h : hk_N U) : va_Nw (.methodLinkNest RX4 99 yX1_hasRoomFor RX5) U := h.2 (RX4, 99, yX1_hasRoomFor) (List.mem_of_getElem? (i := 13) rfl)
theorem nm_X4_102 {U : State} (h : hk_N U) : va_Nw (.methodLinkNest RX4 102 yX1_putGate RX5) U := h.2 (RX4, 102, yX1_putGate) (List.mem_of_getElem? (i := 14) rfl)
theorem nm_X4_108 {U : State} (h : hk_N U) : va_Nw (.methodLinkNest RX4 108 yX1_putOutput RX5) U := h.2 (RX4, 108, yX1_putOutput) (List.mem_of_getElem? (i := 15) rfl)
theorem nm_X4_111 {U : State} (h : hk_N U) : va_Nw (.methodLinkNest RX4 111 yX1_hasWord RX5) U := h.2 (RX4, 111, yX1_hasWord) (List.mem_of_getElem? (i := 16) rfl)
theorem nm_X4_49 {U : State} (h : hk_N U) : va_Nw (.methodLinkNest RX4 49 yX1_words RX5) U := h.2 (RX4, 49, yX1_words) (List.mem_of_getElem? (i := 17) rfl)
theorem nm_X5_197 {U : State} (h : hk_N U) : va_Nw (.methodLinkNest RX5 197 yX1_copyFrom RX5) U := h.2 (RX5, 197, yX1_copyFrom) (List.mem_of_getElem? (i := 18) rfl)
theorem nm_X5_82 {U : State} (h : hk_N U) : va_Nw (.methodLinkNest RX5 82 yX1_hasNode RX5) U := h.2 (RX5, 82, yX1_hasNode) (List.mem_of_getElem? (i := 19) rfl)
theorem nm_X5_86 {U : State} (h : hk_N U) : va_Nw (.methodLinkNest RX5 86 yX1_hasRoomFor RX5) U := h.2 (RX5, 86, yX1_hasRoomFor) (List.mem_of_getElem? (i := 20) rfl)
theorem nm_X5_89 {U : State} (h : hk_N U) : va_Nw (.methodLinkNest RX5 89 yX3_save RX5) U := h.2 (RX5, 89, yX3_save) (List.mem_of_getElem? (i := 21) rfl)
theorem nm_X3_22 {U : State} (h : hk_N U) : va_Nw (.methodLinkNest RX3 22 yX1_copyFrom RX5) U := h.2 (RX3, 22, yX1_copyFrom) (List.mem_of_getElem? (i := 22) rfl)
theorem nm_X5_92 {U : State} (h : hk_N U) : va_Nw (.methodLinkNest RX5 92 yX1_putGate RX5) U := h.2 (RX5, 92, yX1_putGate) (List.mem_of_getElem? (i := 23) rfl)
theorem nm_X5_96 {U : State} (h : hk_N U) : va_Nw (.methodLinkNest RX5 96 yX1_gates RX5) U := h.2 (RX5, 96, yX1_gates) (List.mem_of_getElem? (i := 24) rfl)
theorem nm_X5_102 {U : State} (h : hk_N U) : va_Nw (.methodLinkNest RX5 102 yX1_isOutput RX5) U := h.2 (RX5, 102, yX1_isOutput) (List.mem_of_getElem? (i := 25) rfl)
theorem nm_X5_105 {U : State} (h : hk_N U) : va_Nw (.methodLinkNest RX5 105 yX1_type RX5) U := h.2 (RX5, 105, yX1_type) (List.mem_of_getElem? (i := 26) rfl)
theorem nm_X5_112 {U : State} (h : hk_N U) : va_Nw (.methodLinkNest RX5 112 yX1_putOutput RX5) U := h.2 (RX5, 112, yX1_putOutput) (List.mem_of_getElem? (i := 27) rfl)
theorem nm_X5_116 {U : State} (h : hk_N U) : va_Nw (.methodLinkNest RX5 116 yX1_hasWord RX5) U := h.2 (RX5, 116, yX1_hasWord) (List.mem_of_getElem? (i := 28) rfl)
theorem nm_X5_137 {U : State} (h : hk_N U) : va_Nw (.methodLinkNest RX5 137 yX3_restore RX5) U := h.2 (RX5, 137, yX3_restore) (List.mem_of_getElem? (i := 29) rfl)
theorem nm_X5_143 {U : State} (h : hk_N U) : va_Nw (.methodLinkNest RX5 143 yX1_first RX5) U := h.2 (RX5, 143, yX1_first) (List.mem_of_getElem? (i := 30) rfl)
theorem nm_X5_146 {U : State} (h : hk_N U) : va_Nw (.methodLinkNest RX5 146 yX1_second RX5) U := h.2 (RX5, 146, yX1_second) (List.mem_of_getElem? (i := 31) rfl)
theorem nm_X5_149 {U : State} (h : hk_N U) : va_Nw (.methodLinkNest RX5 149 yX1_nodeOfOutput RX5) U := h.2 (RX5, 149, yX1_nodeOfOutput) (List.mem_of_getElem? (i := 32) rfl)
theorem nm_X5_156 {U : State} (h : hk_N U) : va_Nw (.methodLinkNest RX5 156 yX1_hasFault RX5) U := h.2 (RX5, 156, yX1_hasFault) (List.mem_of_getElem? (i := 33) rfl)
theorem nm_X5_159 {U : State} (h : hk_N U) : va_Nw (.methodLinkNest RX5 159 yX0_wordOut RX5) U := h.2 (RX5, 159, yX0_wordOut) (List.mem_of_getElem? (i := 34) rfl)
theorem nm_X0_114 {U : State} (h : hk_N U) : va_Nw (.methodLinkNest RX0 114 yX1_first RX5) U := h.2 (RX0, 114, yX1_first) (List.mem_of_getElem? (i := 35) rfl)
theorem nm_X0_117 {U : State} (h : hk_N U) : va_Nw (.methodLinkNest RX0 117 yX1_second RX5) U := h.2 (RX0, 117, yX1_second) (List.mem_of_getElem? (i := 36) rfl)
theorem nm_X0_120 {U : State} (h : hk_N U) : va_Nw (.methodLinkNest RX0 120 yX1_type RX5) U := h.2 (RX0, 120, yX1_type) (List.mem_of_getElem? (i := 37) rfl)
theorem nm_X0_102 {U : State} (h : hk_N U) : va_Nw (.methodLinkNest RX0 102 yX1_nodeOfOutput RX5) U := h.2 (RX0, 102, yX1_nodeOfOutput) (List.mem_of_getElem? (i := 38) rfl)
theorem nm_X0_68 {U : State} (h : hk_N U) : va_Nw (.methodLinkNest RX0 68 yX5_bit RX5) U := h.2 (RX0, 68, yX5_bit) (List.mem_of_getElem? (i := 39) rfl)
theorem nm_X5_163 {U : State} (h : hk_N U) : va_Nw (.methodLinkNest RX5 163 yX0_isInCode RX5) U := h.2 (RX5, 163, yX0_isInCode) (List.mem_of_getElem? (i := 40) rfl)
theorem nm_X5_166 {U : State} (h : hk_N U) : va_Nw (.methodLinkNest RX5 166 yX0_exposing RX5) U := h.2 (RX5, 166, yX0_exposing) (List.mem_of_getElem? (i := 41) rfl)
theorem nm_X5_173 {U : State} (h : hk_N U) : va_Nw (.methodLinkNest RX5 173 yX0_unsafe RX5) U := h.2 (RX5, 173, yX0_unsafe) (List.mem_of_getElem? (i := 42) rfl)
theorem nm_X5_176 {U : State} (h : hk_N U) : va_Nw (.methodLinkNest RX5 176 yX1_faults RX5) U := h.2 (RX5, 176, yX1_faults) (List.mem_of_getElem? (i := 43) rfl)
theorem nm_X5_179 {U : State} (h : hk_N U) : va_Nw (.methodLinkNest RX5 179 yX0_isDisjoint RX5) U := h.2 (RX5, 179, yX0_isDisjoint) (List.mem_of_getElem? (i := 44) rfl)
theorem nm_X0_47 {U : State} (h : hk_N U) : va_Nw (.methodLinkNest RX0 47 yX1_words RX5) U := h.2 (RX0, 47, yX1_words) (List.mem_of_getElem? (i := 45) rfl)
theorem nm_X5_183 {U : State} (h : hk_N U) : va_Nw (.methodLinkNest RX5 183 yX0_normalOutputs RX5) U := h.2 (RX5, 183, yX0_normalOutputs) (List.mem_of_getElem? (i := 46) rfl)
theorem nm_X5_191 {U : State} (h : hk_N U) : va_Nw (.methodLinkNest RX5 191 yX0_greedyWord RX5) U := h.2 (RX5, 191, yX0_greedyWord) (List.mem_of_getElem? (i := 47) rfl)
theorem nm_X0_75 {U : State} (h : hk_N U) : va_Nw (.methodLinkNest RX0 75 yX1_faults RX5) U := h.2 (RX0, 75, yX1_faults) (List.mem_of_getElem? (i := 48) rfl)
/-! what every method's start gives beside its cells: classes, array classes, nest links, the constant columns -/
abbrev hk_G : Type := ClassId × ClassId × ClassId × ClassId
abbrev hk_ty (g : hk_G) : List (ClassId × FieldType) := [(g.1, .char), (g.2.1, .int), (g.2.2.1, .long), (g.2.2.2, .object "SelfCheckingCircuit$Circuit")]
def hk_col (j : Nat) : Int64 := match j with
  | 0 => -6148914691236517206
  | 1 => -3689348814741910324
  | 2 => -1085102592571150096
  | 3 => -71777214294589696
  | 4 => -281470681808896
  | _ => -4294967296
def hk_ic : Nat → Value := fun j => .long (hk_col j)
def hk_E (D : va_G) (g : hk_G) (ti : Nat) (A : Nat → Prop) (U : State) (H : Heap) : Prop := va_K D vwCl (hk_ty g) U ∧ hk_N U ∧ va_Z RX0 "INPUT_COLUMNS" "[J" (.ref ti) A U H ∧ va_T .long ti 6 hk_ic A U H
theorem hk_N.calling {U : State} {gg : JFrame} {mk : MethodId} {a : Array Value} (h : hk_N U) : hk_N (U.calling gg mk a) := ⟨fun q hq => va_Nw.same rfl rfl (h.1 q hq), fun q hq => va_Nw.same rfl rfl (h.2 q hq)⟩
theorem hk_E.calling {D : va_G} {g : hk_G} {ti : Nat} {A : Nat → Prop} {U : State} {H : Heap} {gg : JFrame} {mk : MethodId} {a : Array Value} (h : hk_E D g ti A U H) : hk_E D g ti A (U.calling gg mk a) H :=
  ⟨va_K.moved (u := U) (U := U.calling gg mk a) (Vm.Alike.refl U.vm) h.1, h.2.1.calling, va_Z.moved (u := U) (U := U.calling gg mk a) (Vm.Alike.refl U.vm) h.2.2.1, va_T.moved (u := U) (U := U.calling gg mk a) (Vm.Alike.refl U.vm) h.2.2.2⟩
theorem hk_E.at {D : va_G} {g : hk_G} {ti : Nat} {A B : Nat → Prop} {s U : State} {H : Heap} {locs : List Loc} (h : hk_E D g ti A s s.heap) (hS : va_S A s.heap H locs) (hB : ∀ q, B q → A q) (hU : U.heap = H) (hW : s.WarmedH U.vm) : hk_E D g ti B U U.heap := by
  rw [hU]
  exact ⟨va_K.moved hW.alike h.1, ⟨fun q hq => va_Nw.warmF hW (h.2.1.1 q hq), fun q hq => va_Nw.warmM hW (h.2.1.2 q hq)⟩, va_Z.moved hW.alike ((h.2.2.1.kept hS.2.1).narrow hB), va_T.moved hW.alike ((h.2.2.2.kept hS.2.1).narrow hB)⟩
/-- the start of a method that only reads -/
def hk_Ro (D : va_G) (g : hk_G) (ti : Nat) (ws : va_W) (U : State) : Prop := va_P D vwCl ws U.heap ∧ hk_E D g ti (fun _ => False) U U.heap
/-- the start of a method that writes its cells -/
def hk_In (D : va_G) (g : hk_G) (ti : Nat) (ws : va_W) (sz : Nat) (U : State) : Prop := U.heap.size = sz ∧ va_P D vwCl ws U.heap ∧ va_D (fun _ => True) ws ∧ hk_E D g ti (va_A ws sz) U U.heap
def hk_Out (D : va_G) (A : Nat → Prop) (ws : va_W) (t : State) : Prop := va_P D vwCl ws t.heap ∧ va_D A ws
theorem hk_bRo {av : List Value} {D : va_G} {g : hk_G} {ti : Nat} {ws : va_W} : FrameBlind (va_Pc av (hk_Ro D g ti ws)) := fun _ _ _ _ h => ⟨h.1, h.2.1, h.2.2.calling⟩
theorem hk_bIn {av : List Value} {D : va_G} {g : hk_G} {ti : Nat} {ws : va_W} {sz : Nat} : FrameBlind (va_Pc av (hk_In D g ti ws sz)) := fun _ _ _ _ h => ⟨h.1, h.2.1, h.2.2.1, h.2.2.2.1, h.2.2.2.2.calling⟩
theorem hk_fm {ws wc : va_W} {is : List Nat} (h : is.map (fun i => ws[i]?) = wc.map some) : is.filterMap (fun i => ws[i]?) = wc := by
  induction is generalizing wc with
  | nil => cases wc with
    | nil => rfl
    | cons a b => simp at h
  | cons i is ih => cases wc with
    | nil => simp at h
    | cons a b =>
      simp only [List.map_cons, List.cons.injEq] at h
      rw [List.filterMap_cons, h.1, ih h.2]
section HKP
variable {s : State} {H : Heap} {locs : List Loc} {D : va_G} {g : hk_G} {ti : Nat} {A : Nat → Prop} {ws wc : va_W} {C : String} {b : Nat} {As : List Value} {q : vw_C} {fs : List Value}
theorem hk_roV (hE : hk_E D g ti A s s.heap) (hP : va_P D vwCl ws H) (hS : va_S A s.heap H locs) (ci : Nat) (hc : vwCl[ci]? = some q) (hq : q.1 = C) (isC : List Nat) (hC : isC.map (fun i => ws[i]?) = wc.map some) (h0 : wc[0]? = some (b, .inr (ci, fs))) : PreV s H C b (va_Pc (.ref b :: As) (hk_Ro D g ti wc)) As := by
  subst hq
  have hPc := hP.sub (ws' := wc) isC (hk_fm hC)
  exact ⟨hk_bRo, va_recv hE.1 hPc hc h0, fun U hU hW => ⟨rfl, by rw [hU]; exact hPc, hE.at hS (fun _ h => h.elim) hU hW⟩⟩
theorem hk_roS (hE : hk_E D g ti A s s.heap) (hP : va_P D vwCl ws H) (hS : va_S A s.heap H locs) (isC : List Nat) (hC : isC.map (fun i => ws[i]?) = wc.map some) : PreS s H (va_Pc As (hk_Ro D g ti wc)) As := by
  have hPc := hP.sub (ws' := wc) isC (hk_fm hC)
  exact ⟨hk_bRo, fun U hU hW => ⟨rfl, by rw [hU]; exact hPc, hE.at hS (fun _ h => h.elim) hU hW⟩⟩
theorem hk_inV (hE : hk_E D g ti A s s.heap) (hP : va_P D vwCl ws H) (hD : va_D A ws) (hS : va_S A s.heap H locs) (hA : ∀ q, s.heap.size ≤ q → A q) (ci : Nat) (hc : vwCl[ci]? = some q) (hq : q.1 = C) (isC : List Nat) (hn : va_nd isC = true) (hC : isC.map (fun i => ws[i]?) = wc.map some) (h0 : wc[0]? = some (b, .inr (ci, fs))) : PreV s H C b (va_Pc (.ref b :: As) (hk_In D g ti wc H.size)) As := by
  subst hq
  have hPc := hP.sub (ws' := wc) isC (hk_fm hC)
  exact ⟨hk_bIn, va_recv hE.1 hPc hc h0, fun U hU hW => ⟨rfl, by rw [hU], by rw [hU]; exact hPc, (hD.sub isC hn hC).weaken (fun _ _ _ _ => trivial), hE.at hS (va_free hD hS hA isC hC) hU hW⟩⟩
theorem hk_inS (hE : hk_E D g ti A s s.heap) (hP : va_P D vwCl ws H) (hD : va_D A ws) (hS : va_S A s.heap H locs) (hA : ∀ q, s.heap.size ≤ q → A q) (isC : List Nat) (hn : va_nd isC = true) (hC : isC.map (fun i => ws[i]?) = wc.map some) : PreS s H (va_Pc As (hk_In D g ti wc H.size)) As := by
  have hPc := hP.sub (ws' := wc) isC (hk_fm hC)
  exact ⟨hk_bIn, fun U hU hW => ⟨rfl, by rw [hU], by rw [hU]; exact hPc, (hD.sub isC hn hC).weaken (fun _ _ _ _ => trivial), hE.at hS (va_free hD hS hA isC hC) hU hW⟩⟩
end HKP
section HKC
variable {p : Program} {l : Launch} {e : Env} {R : Room} {s : State} {m : MethodId} {args : Array Value} {below : List Frame} {meth : Method} {c : Code} {H : Heap} {locs : List Loc} {cells slots mc ms : Nat} {Q : State → Prop}
variable {pc : Nat} {ls : Array Slot} {rest st0 : List Value} {a : Array Value} {D : va_G} {A : Nat → Prop} {ws wc wr : va_W}
theorem hk_csi {post : Int32 → Prop} (hr : va_Run p l e R s m args below meth c H locs cells slots 0 0 (F0 m pc ls st0) rest (vp_Si post a) (fun _ => False))
    (kk : ∀ r : Int32, post r → W p l e R s m args below meth c H locs cells slots Q (F0 m (pc + 3) ls (.int r :: rest))) : W p l e R s m args below meth c H locs cells slots Q (F0 m pc ls st0) := by
  intro T hT X
  obtain ⟨v, st₀, t, T', L, h0, X', hL, e1, -, ⟨r, hv, hp, hh⟩, st⟩ := hr T hT X
  cases hv
  obtain ⟨t2, a1, b1⟩ := kk r hp T' (by rw [e1, hh, h0]) (Stand.forget X' (fun q h => (hL q h).elim))
  exact ⟨t2, st t2 a1, b1⟩
theorem hk_csl {post : Int64 → Prop} (hr : va_Run p l e R s m args below meth c H locs cells slots 0 0 (F0 m pc ls st0) rest (vp_Sl post a) (fun _ => False))
    (kk : ∀ r : Int64, post r → W p l e R s m args below meth c H locs cells slots Q (F0 m (pc + 3) ls (.long r :: rest))) : W p l e R s m args below meth c H locs cells slots Q (F0 m pc ls st0) := by
  intro T hT X
  obtain ⟨v, st₀, t, T', L, h0, X', hL, e1, -, ⟨r, hv, hp, hh⟩, st⟩ := hr T hT X
  cases hv
  obtain ⟨t2, a1, b1⟩ := kk r hp T' (by rw [e1, hh, h0]) (Stand.forget X' (fun q h => (hL q h).elim))
  exact ⟨t2, st t2 a1, b1⟩
theorem hk_csq {post : Nat → Prop} (hr : va_Run p l e R s m args below meth c H locs cells slots 0 0 (F0 m pc ls st0) rest (va_Sr post (fun k => .ref k) a) (fun _ => False))
    (kk : ∀ k : Nat, post k → W p l e R s m args below meth c H locs cells slots Q (F0 m (pc + 3) ls (.ref k :: rest))) : W p l e R s m args below meth c H locs cells slots Q (F0 m pc ls st0) := by
  intro T hT X
  obtain ⟨v, st₀, t, T', L, h0, X', hL, e1, -, ⟨r, hv, hp, hh⟩, st⟩ := hr T hT X
  cases hv
  obtain ⟨t2, a1, b1⟩ := kk r hp T' (by rw [e1, hh, h0]) (Stand.forget X' (fun q h => (hL q h).elim))
  exact ⟨t2, st t2 a1, b1⟩
theorem hk_cmi {S : Type} {post : Int32 → S → Prop} {wF : S → va_W} (hr : va_Run p l e R s m args below meth c H locs cells slots mc ms (F0 m pc ls st0) rest (va_Qi post (fun u => hk_Out D (va_A wc H.size) (wF u)) (va_A wc H.size) a) (va_A wc H.size))
    (hP : va_P D vwCl ws H) (hD : va_D A ws) (hS : va_S A s.heap H locs) (hA : ∀ q, s.heap.size ≤ q → A q) (isC isR : List Nat) (hC : isC.map (fun i => ws[i]?) = wc.map some) (hR : isR.map (fun i => ws[i]?) = wr.map some) (hn : va_nd isR = true) (hdis : ∀ i ∈ isR, i ∉ isC)
    (kk : ∀ (r : Int32) (u : S) (H1 : Heap) (locs1 : List Loc), post r u → va_P D vwCl (wr ++ wF u) H1 → va_D A (wr ++ wF u) → va_S A s.heap H1 locs1 → W p l e R s m args below meth c H1 locs1 (cells + mc) (slots + ms) Q (F0 m (pc + 3) ls (.int r :: rest))) : W p l e R s m args below meth c H locs cells slots Q (F0 m pc ls st0) := by
  refine va_calli hr hS (fun q _ h => va_free hD hS hA isC hC q h) (va_free hD hS hA isC hC) (fun r u t H1 locs1 ht hvm hp hb hz hk hS1 => ?_)
  obtain ⟨hP1, hD1⟩ := hb
  rw [ht] at hP1
  obtain ⟨hP2, hD2⟩ := va_join hP hD isC isR hC hR hn hdis hk (va_free hD hS hA isC hC) hP1 hD1
  exact kk r u H1 locs1 hp hP2 hD2 hS1
theorem hk_cml {S : Type} {post : Int64 → S → Prop} {wF : S → va_W} (hr : va_Run p l e R s m args below meth c H locs cells slots mc ms (F0 m pc ls st0) rest (va_Ql post (fun u => hk_Out D (va_A wc H.size) (wF u)) (va_A wc H.size) a) (va_A wc H.size))
    (hP : va_P D vwCl ws H) (hD : va_D A ws) (hS : va_S A s.heap H locs) (hA : ∀ q, s.heap.size ≤ q → A q) (isC isR : List Nat) (hC : isC.map (fun i => ws[i]?) = wc.map some) (hR : isR.map (fun i => ws[i]?) = wr.map some) (hn : va_nd isR = true) (hdis : ∀ i ∈ isR, i ∉ isC)
    (kk : ∀ (r : Int64) (u : S) (H1 : Heap) (locs1 : List Loc), post r u → va_P D vwCl (wr ++ wF u) H1 → va_D A (wr ++ wF u) → va_S A s.heap H1 locs1 → W p l e R s m args below meth c H1 locs1 (cells + mc) (slots + ms) Q (F0 m (pc + 3) ls (.long r :: rest))) : W p l e R s m args below meth c H locs cells slots Q (F0 m pc ls st0) := by
  refine va_calll hr hS (fun q _ h => va_free hD hS hA isC hC q h) (va_free hD hS hA isC hC) (fun r u t H1 locs1 ht hvm hp hb hz hk hS1 => ?_)
  obtain ⟨hP1, hD1⟩ := hb
  rw [ht] at hP1
  obtain ⟨hP2, hD2⟩ := va_join hP hD isC isR hC hR hn hdis hk (va_free hD hS hA isC hC) hP1 hD1
  exact kk r u H1 locs1 hp hP2 hD2 hS1
theorem hk_cmv {S : Type} {post : S → Prop} {wF : S → va_W} (hr : va_Run p l e R s m args below meth c H locs cells slots mc ms (F0 m pc ls st0) rest (va_Qv post (fun u => hk_Out D (va_A wc H.size) (wF u)) (va_A wc H.size) a) (va_A wc H.size))
    (hP : va_P D vwCl ws H) (hD : va_D A ws) (hS : va_S A s.heap H locs) (hA : ∀ q, s.heap.size ≤ q → A q) (isC isR : List Nat) (hC : isC.map (fun i => ws[i]?) = wc.map some) (hR : isR.map (fun i => ws[i]?) = wr.map some) (hn : va_nd isR = true) (hdis : ∀ i ∈ isR, i ∉ isC)
    (kk : ∀ (u : S) (H1 : Heap) (locs1 : List Loc), post u → va_P D vwCl (wr ++ wF u) H1 → va_D A (wr ++ wF u) → va_S A s.heap H1 locs1 → W p l e R s m args below meth c H1 locs1 (cells + mc) (slots + ms) Q (F0 m (pc + 3) ls rest)) : W p l e R s m args below meth c H locs cells slots Q (F0 m pc ls st0) := by
  refine va_callv hr hS (fun q _ h => va_free hD hS hA isC hC q h) (va_free hD hS hA isC hC) (fun u t H1 locs1 ht hvm hp hb hz hk hS1 => ?_)
  obtain ⟨hP1, hD1⟩ := hb
  rw [ht] at hP1
  obtain ⟨hP2, hD2⟩ := va_join hP hD isC isR hC hR hn hdis hk (va_free hD hS hA isC hC) hP1 hD1
  exact kk u H1 locs1 hp hP2 hD2 hS1
theorem hk_ti {x : Int32} (y : Int32) (h : x = y) (k : W p l e R s m args below meth c H locs cells slots Q (F0 m pc ls (.int y :: rest))) : W p l e R s m args below meth c H locs cells slots Q (F0 m pc ls (.int x :: rest)) := by rw [h]; exact k
theorem hk_tl {x : Int64} (y : Int64) (h : x = y) (k : W p l e R s m args below meth c H locs cells slots Q (F0 m pc ls (.long y :: rest))) : W p l e R s m args below meth c H locs cells slots Q (F0 m pc ls (.long x :: rest)) := by rw [h]; exact k
end HKC
/-! ends of methods -/
theorem hk_S0 {A : Nat → Prop} {H : Heap} : va_S A H H [] := va_S.rf
theorem hk_z0 : narrow .boolean (.int 0) = .int 0 := by decide
theorem hk_z1 : narrow .boolean (.int 1) = .int 1 := by decide
/-! indices -/
theorem hk_inR {i : Int32} {n : Nat} {k : Int32} (hk : k = nI n) (hn : n < 2 ^ 31) (h0 : ¬ i < 0) (h1 : ¬ k ≤ i) : vp_in i n := by
  rintro (h | h)
  · exact h0 h
  · apply h1
    obtain ⟨j, hj, rfl⟩ := nI_of h0
    rw [nI_clamp hj] at h
    rw [hk]
    exact nI_le h hj
theorem hk_inR' {i : Int32} {n : Nat} {k : Int32} (hk : k = nI n) (hn : n < 2 ^ 31) (h0 : 0 ≤ i) (h1 : i < k) : vp_in i n := hk_inR hk hn (fun h => by
  have := Int32.lt_iff_toInt_lt.mp h
  have := Int32.le_iff_toInt_le.mp h0
  omega) (fun h => by
  have := Int32.lt_iff_toInt_lt.mp h1
  have := Int32.le_iff_toInt_le.mp h
  omega)
