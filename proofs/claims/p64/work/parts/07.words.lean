theorem tin1 {w : Cond} (h : w ∈ tables_1_1) : w ∈ lw_tbl := m_tin (List.mem_append_left _ h)
theorem tin2 {w : Cond} (h : w ∈ tables_1_2) : w ∈ lw_tbl := m_tin (List.mem_append_right _ (List.mem_append_left _ h))
theorem tin3 {w : Cond} (h : w ∈ tables_1_3) : w ∈ lw_tbl := m_tin (List.mem_append_right _ (List.mem_append_right _ (List.mem_append_left _ h)))
theorem tin4 {w : Cond} (h : w ∈ tables_1_4) : w ∈ lw_tbl := m_tin (List.mem_append_right _ (List.mem_append_right _ (List.mem_append_right _ (List.mem_append_left _ h))))
theorem tin5 {w : Cond} (h : w ∈ tables_1_5) : w ∈ lw_tbl := m_tin (List.mem_append_right _ (List.mem_append_right _ (List.mem_append_right _ (List.mem_append_right _ (List.mem_append_left _ h)))))
theorem tin6 {w : Cond} (h : w ∈ tables_1_6) : w ∈ lw_tbl := m_tin (List.mem_append_right _ (List.mem_append_right _ (List.mem_append_right _ (List.mem_append_right _ (List.mem_append_right _ (List.mem_append_left _ h))))))
theorem tin7 {w : Cond} (h : w ∈ tables_1_7) : w ∈ lw_tbl := m_tin (List.mem_append_right _ (List.mem_append_right _ (List.mem_append_right _ (List.mem_append_right _ (List.mem_append_right _ (List.mem_append_right _ (h)))))))
set_option maxRecDepth 100000 in
theorem q14 {s : State} {a : Array Value} (h : mT s) : (Jvm.Cond.initialized "java/util/NoSuchElementException").before a s = true := h _ (tin1 (List.mem_of_getElem? (l := tables_1_1) (i := 14) rfl)) rfl a
set_option maxRecDepth 100000 in
theorem q15 {s : State} {a : Array Value} (h : mT s) : (Jvm.Cond.initialized "java/lang/IndexOutOfBoundsException").before a s = true := h _ (tin1 (List.mem_of_getElem? (l := tables_1_1) (i := 15) rfl)) rfl a
set_option maxRecDepth 100000 in
theorem q18 {s : State} {a : Array Value} (h : mT s) : (Jvm.Cond.initialized "java/lang/IllegalArgumentException").before a s = true := h _ (tin1 (List.mem_of_getElem? (l := tables_1_1) (i := 18) rfl)) rfl a
set_option maxRecDepth 100000 in
theorem q19 {s : State} {a : Array Value} (h : mT s) : (Jvm.Cond.initialized "java/lang/System").before a s = true := h _ (tin1 (List.mem_of_getElem? (l := tables_1_1) (i := 19) rfl)) rfl a
set_option maxRecDepth 100000 in
theorem q20 {s : State} {a : Array Value} (h : mT s) : (Jvm.Cond.initialized "java/lang/UnsupportedOperationException").before a s = true := h _ (tin1 (List.mem_of_getElem? (l := tables_1_1) (i := 20) rfl)) rfl a
set_option maxRecDepth 100000 in
theorem q21 {s : State} {a : Array Value} (h : mT s) : (Jvm.Cond.initialized "java/lang/Math").before a s = true := h _ (tin1 (List.mem_of_getElem? (l := tables_1_1) (i := 21) rfl)) rfl a
set_option maxRecDepth 100000 in
theorem q31 {s : State} {a : Array Value} (h : mT s) : (Jvm.Cond.initialized "java/lang/IllegalStateException").before a s = true := h _ (tin1 (List.mem_of_getElem? (l := tables_1_1) (i := 31) rfl)) rfl a
set_option maxRecDepth 100000 in
theorem q33 {s : State} {a : Array Value} (h : mT s) : (Jvm.Cond.initialized "java/lang/ArithmeticException").before a s = true := h _ (tin1 (List.mem_of_getElem? (l := tables_1_1) (i := 33) rfl)) rfl a
set_option maxRecDepth 100000 in
theorem q54 {s : State} {a : Array Value} (h : mT s) : (Jvm.Cond.fieldLink "ShareVault$Keys" (21 : Nat) "ShareVault$Keys" "holderCount" "I").before a s = true := h _ (tin1 (List.mem_of_getElem? (l := tables_1_1) (i := 54) rfl)) rfl a
set_option maxRecDepth 100000 in
theorem q55 {s : State} {a : Array Value} (h : mT s) : (Jvm.Cond.fieldLink "ShareVault$State" (52 : Nat) "ShareVault$Keys" "holderCount" "I").before a s = true := h _ (tin1 (List.mem_of_getElem? (l := tables_1_1) (i := 55) rfl)) rfl a
set_option maxRecDepth 100000 in
theorem q56 {s : State} {a : Array Value} (h : mT s) : (Jvm.Cond.fieldLink "ShareVault" (119 : Nat) "ShareVault$Keys" "holderCount" "I").before a s = true := h _ (tin1 (List.mem_of_getElem? (l := tables_1_1) (i := 56) rfl)) rfl a
set_option maxRecDepth 100000 in
theorem q57 {s : State} {a : Array Value} (h : mT s) : (Jvm.Cond.fieldLink "ShareVault$Keys" (9 : Nat) "ShareVault$Keys" "shares" "[I").before a s = true := h _ (tin1 (List.mem_of_getElem? (l := tables_1_1) (i := 57) rfl)) rfl a
set_option maxRecDepth 100000 in
theorem q58 {s : State} {a : Array Value} (h : mT s) : (Jvm.Cond.fieldLink "ShareVault$Solver" (63 : Nat) "ShareVault$Keys" "shares" "[I").before a s = true := h _ (tin1 (List.mem_of_getElem? (l := tables_1_1) (i := 58) rfl)) rfl a
set_option maxRecDepth 100000 in
theorem q59 {s : State} {a : Array Value} (h : mT s) : (Jvm.Cond.fieldLink "ShareVault$State" (100 : Nat) "ShareVault$Keys" "shares" "[I").before a s = true := h _ (tin1 (List.mem_of_getElem? (l := tables_1_1) (i := 59) rfl)) rfl a
set_option maxRecDepth 100000 in
theorem q60 {s : State} {a : Array Value} (h : mT s) : (Jvm.Cond.fieldLink "ShareVault" (138 : Nat) "ShareVault$Keys" "shares" "[I").before a s = true := h _ (tin1 (List.mem_of_getElem? (l := tables_1_1) (i := 60) rfl)) rfl a
set_option maxRecDepth 100000 in
theorem q61 {s : State} {a : Array Value} (h : mT s) : (Jvm.Cond.fieldLink "ShareVault$Keys" (31 : Nat) "ShareVault$Keys" "sealed" "Z").before a s = true := h _ (tin1 (List.mem_of_getElem? (l := tables_1_1) (i := 61) rfl)) rfl a
set_option maxRecDepth 100000 in
theorem q62 {s : State} {a : Array Value} (h : mT s) : (Jvm.Cond.fieldLink "ShareVault$State" (96 : Nat) "ShareVault$Keys" "sealed" "Z").before a s = true := h _ (tin1 (List.mem_of_getElem? (l := tables_1_1) (i := 62) rfl)) rfl a
set_option maxRecDepth 100000 in
theorem q63 {s : State} {a : Array Value} (h : mT s) : (Jvm.Cond.fieldLink "ShareVault" (124 : Nat) "ShareVault$Keys" "sealed" "Z").before a s = true := h _ (tin1 (List.mem_of_getElem? (l := tables_1_1) (i := 63) rfl)) rfl a
set_option maxRecDepth 100000 in
theorem q64 {s : State} {a : Array Value} (h : mT s) : (Jvm.Cond.fieldLink "ShareVault$Keys" (35 : Nat) "ShareVault$Keys" "threshold" "I").before a s = true := h _ (tin1 (List.mem_of_getElem? (l := tables_1_1) (i := 64) rfl)) rfl a
set_option maxRecDepth 100000 in
theorem q65 {s : State} {a : Array Value} (h : mT s) : (Jvm.Cond.fieldLink "ShareVault$Solver" (42 : Nat) "ShareVault$Keys" "threshold" "I").before a s = true := h _ (tin1 (List.mem_of_getElem? (l := tables_1_1) (i := 65) rfl)) rfl a
set_option maxRecDepth 100000 in
theorem q66 {s : State} {a : Array Value} (h : mT s) : (Jvm.Cond.fieldLink "ShareVault$State" (66 : Nat) "ShareVault$Keys" "threshold" "I").before a s = true := h _ (tin1 (List.mem_of_getElem? (l := tables_1_1) (i := 66) rfl)) rfl a
set_option maxRecDepth 100000 in
theorem q67 {s : State} {a : Array Value} (h : mT s) : (Jvm.Cond.fieldLink "ShareVault" (131 : Nat) "ShareVault$Keys" "threshold" "I").before a s = true := h _ (tin1 (List.mem_of_getElem? (l := tables_1_1) (i := 67) rfl)) rfl a
set_option maxRecDepth 100000 in
theorem q68 {s : State} {a : Array Value} (h : mT s) : (Jvm.Cond.fieldLink "ShareVault$Keys" (15 : Nat) "ShareVault$Keys" "curve" "[I").before a s = true := h _ (tin1 (List.mem_of_getElem? (l := tables_1_1) (i := 68) rfl)) rfl a
set_option maxRecDepth 100000 in
theorem q69 {s : State} {a : Array Value} (h : mT s) : (Jvm.Cond.fieldLink "ShareVault$Keys" (38 : Nat) "ShareVault$Keys" "presentedCount" "I").before a s = true := h _ (tin1 (List.mem_of_getElem? (l := tables_1_1) (i := 69) rfl)) rfl a
set_option maxRecDepth 100000 in
theorem q70 {s : State} {a : Array Value} (h : mT s) : (Jvm.Cond.fieldLink "ShareVault$Solver" (32 : Nat) "ShareVault$Keys" "presentedCount" "I").before a s = true := h _ (tin1 (List.mem_of_getElem? (l := tables_1_1) (i := 70) rfl)) rfl a
set_option maxRecDepth 100000 in
theorem q71 {s : State} {a : Array Value} (h : mT s) : (Jvm.Cond.fieldLink "ShareVault$State" (60 : Nat) "ShareVault$Keys" "presentedCount" "I").before a s = true := h _ (tin1 (List.mem_of_getElem? (l := tables_1_1) (i := 71) rfl)) rfl a
set_option maxRecDepth 100000 in
theorem q72 {s : State} {a : Array Value} (h : mT s) : (Jvm.Cond.fieldLink "ShareVault" (148 : Nat) "ShareVault$Keys" "presentedCount" "I").before a s = true := h _ (tin1 (List.mem_of_getElem? (l := tables_1_1) (i := 72) rfl)) rfl a
set_option maxRecDepth 100000 in
theorem q73 {s : State} {a : Array Value} (h : mT s) : (Jvm.Cond.fieldLink "ShareVault$Keys" (18 : Nat) "ShareVault$Keys" "presented" "[I").before a s = true := h _ (tin1 (List.mem_of_getElem? (l := tables_1_1) (i := 73) rfl)) rfl a
set_option maxRecDepth 100000 in
theorem q74 {s : State} {a : Array Value} (h : mT s) : (Jvm.Cond.fieldLink "ShareVault$Solver" (23 : Nat) "ShareVault$Keys" "presented" "[I").before a s = true := h _ (tin1 (List.mem_of_getElem? (l := tables_1_1) (i := 74) rfl)) rfl a
set_option maxRecDepth 100000 in
theorem q75 {s : State} {a : Array Value} (h : mT s) : (Jvm.Cond.fieldLink "ShareVault" (158 : Nat) "ShareVault$Keys" "presented" "[I").before a s = true := h _ (tin1 (List.mem_of_getElem? (l := tables_1_1) (i := 75) rfl)) rfl a
set_option maxRecDepth 100000 in
theorem q98 {s : State} {a : Array Value} (h : mT s) : (Jvm.Cond.fieldLink "ShareVault$Door" (9 : Nat) "ShareVault$Door" "open" "Z").before a s = true := h _ (tin1 (List.mem_of_getElem? (l := tables_1_1) (i := 98) rfl)) rfl a
set_option maxRecDepth 100000 in
theorem q99 {s : State} {a : Array Value} (h : mT s) : (Jvm.Cond.fieldLink "ShareVault$State" (130 : Nat) "ShareVault$Door" "open" "Z").before a s = true := h _ (tin1 (List.mem_of_getElem? (l := tables_1_1) (i := 99) rfl)) rfl a
set_option maxRecDepth 100000 in
theorem q100 {s : State} {a : Array Value} (h : mT s) : (Jvm.Cond.fieldLink "ShareVault" (190 : Nat) "ShareVault$Door" "open" "Z").before a s = true := h _ (tin1 (List.mem_of_getElem? (l := tables_1_1) (i := 100) rfl)) rfl a
set_option maxRecDepth 100000 in
theorem q101 {s : State} {a : Array Value} (h : mT s) : (Jvm.Cond.fieldLink "ShareVault$Door" (15 : Nat) "ShareVault$Door" "lockedHours" "I").before a s = true := h _ (tin1 (List.mem_of_getElem? (l := tables_1_1) (i := 101) rfl)) rfl a
set_option maxRecDepth 100000 in
theorem q102 {s : State} {a : Array Value} (h : mT s) : (Jvm.Cond.fieldLink "ShareVault$State" (63 : Nat) "ShareVault$Door" "lockedHours" "I").before a s = true := h _ (tin1 (List.mem_of_getElem? (l := tables_1_1) (i := 102) rfl)) rfl a
set_option maxRecDepth 100000 in
theorem q103 {s : State} {a : Array Value} (h : mT s) : (Jvm.Cond.fieldLink "ShareVault" (195 : Nat) "ShareVault$Door" "lockedHours" "I").before a s = true := h _ (tin1 (List.mem_of_getElem? (l := tables_1_1) (i := 103) rfl)) rfl a
set_option maxRecDepth 100000 in
theorem q104 {s : State} {a : Array Value} (h : mT s) : (Jvm.Cond.fieldLink "ShareVault$Door" (19 : Nat) "ShareVault$Door" "failedAttempts" "I").before a s = true := h _ (tin1 (List.mem_of_getElem? (l := tables_1_1) (i := 104) rfl)) rfl a
set_option maxRecDepth 100000 in
theorem q105 {s : State} {a : Array Value} (h : mT s) : (Jvm.Cond.fieldLink "ShareVault$State" (72 : Nat) "ShareVault$Door" "failedAttempts" "I").before a s = true := h _ (tin1 (List.mem_of_getElem? (l := tables_1_1) (i := 105) rfl)) rfl a
set_option maxRecDepth 100000 in
theorem q106 {s : State} {a : Array Value} (h : mT s) : (Jvm.Cond.fieldLink "ShareVault" (198 : Nat) "ShareVault$Door" "failedAttempts" "I").before a s = true := h _ (tin1 (List.mem_of_getElem? (l := tables_1_1) (i := 106) rfl)) rfl a
set_option maxRecDepth 100000 in
theorem q107 {s : State} {a : Array Value} (h : mT s) : (Jvm.Cond.fieldLink "ShareVault$Door" (22 : Nat) "ShareVault$Door" "openingCount" "I").before a s = true := h _ (tin1 (List.mem_of_getElem? (l := tables_1_1) (i := 107) rfl)) rfl a
set_option maxRecDepth 100000 in
theorem q108 {s : State} {a : Array Value} (h : mT s) : (Jvm.Cond.fieldLink "ShareVault" (256 : Nat) "ShareVault$Door" "openingCount" "I").before a s = true := h _ (tin1 (List.mem_of_getElem? (l := tables_1_1) (i := 108) rfl)) rfl a
set_option maxRecDepth 100000 in
theorem q124 {s : State} {a : Array Value} (h : mT s) : (Jvm.Cond.fieldLink "ShareVault$Building" (28 : Nat) "ShareVault$Building" "hour" "I").before a s = true := h _ (tin1 (List.mem_of_getElem? (l := tables_1_1) (i := 124) rfl)) rfl a
set_option maxRecDepth 100000 in
theorem q125 {s : State} {a : Array Value} (h : mT s) : (Jvm.Cond.fieldLink "ShareVault$State" (123 : Nat) "ShareVault$Building" "hour" "I").before a s = true := h _ (tin1 (List.mem_of_getElem? (l := tables_1_1) (i := 125) rfl)) rfl a
set_option maxRecDepth 100000 in
theorem q126 {s : State} {a : Array Value} (h : mT s) : (Jvm.Cond.fieldLink "ShareVault" (112 : Nat) "ShareVault$Building" "hour" "I").before a s = true := h _ (tin1 (List.mem_of_getElem? (l := tables_1_1) (i := 126) rfl)) rfl a
set_option maxRecDepth 100000 in
theorem q127 {s : State} {a : Array Value} (h : mT s) : (Jvm.Cond.fieldLink "ShareVault$Building" (9 : Nat) "ShareVault$Building" "noise" "[I").before a s = true := h _ (tin1 (List.mem_of_getElem? (l := tables_1_1) (i := 127) rfl)) rfl a
set_option maxRecDepth 100000 in
theorem q128 {s : State} {a : Array Value} (h : mT s) : (Jvm.Cond.fieldLink "ShareVault$State" (153 : Nat) "ShareVault$Building" "noise" "[I").before a s = true := h _ (tin1 (List.mem_of_getElem? (l := tables_1_1) (i := 128) rfl)) rfl a
set_option maxRecDepth 100000 in
theorem q129 {s : State} {a : Array Value} (h : mT s) : (Jvm.Cond.fieldLink "ShareVault" (217 : Nat) "ShareVault$Building" "noise" "[I").before a s = true := h _ (tin1 (List.mem_of_getElem? (l := tables_1_1) (i := 129) rfl)) rfl a
set_option maxRecDepth 100000 in
theorem q130 {s : State} {a : Array Value} (h : mT s) : (Jvm.Cond.fieldLink "ShareVault$Building" (15 : Nat) "ShareVault$Building" "alarms" "[I").before a s = true := h _ (tin1 (List.mem_of_getElem? (l := tables_1_1) (i := 130) rfl)) rfl a
set_option maxRecDepth 100000 in
theorem q131 {s : State} {a : Array Value} (h : mT s) : (Jvm.Cond.fieldLink "ShareVault" (253 : Nat) "ShareVault$Building" "alarms" "[I").before a s = true := h _ (tin1 (List.mem_of_getElem? (l := tables_1_1) (i := 131) rfl)) rfl a
set_option maxRecDepth 100000 in
theorem q132 {s : State} {a : Array Value} (h : mT s) : (Jvm.Cond.fieldLink "ShareVault$Building" (38 : Nat) "ShareVault$Building" "alarmCount" "I").before a s = true := h _ (tin1 (List.mem_of_getElem? (l := tables_1_1) (i := 132) rfl)) rfl a
set_option maxRecDepth 100000 in
theorem q133 {s : State} {a : Array Value} (h : mT s) : (Jvm.Cond.fieldLink "ShareVault$State" (162 : Nat) "ShareVault$Building" "alarmCount" "I").before a s = true := h _ (tin1 (List.mem_of_getElem? (l := tables_1_1) (i := 133) rfl)) rfl a
set_option maxRecDepth 100000 in
theorem q134 {s : State} {a : Array Value} (h : mT s) : (Jvm.Cond.fieldLink "ShareVault" (245 : Nat) "ShareVault$Building" "alarmCount" "I").before a s = true := h _ (tin1 (List.mem_of_getElem? (l := tables_1_1) (i := 134) rfl)) rfl a
set_option maxRecDepth 100000 in
theorem q135 {s : State} {a : Array Value} (h : mT s) : (Jvm.Cond.fieldLink "ShareVault$Building" (41 : Nat) "ShareVault$Building" "guardCount" "I").before a s = true := h _ (tin1 (List.mem_of_getElem? (l := tables_1_1) (i := 135) rfl)) rfl a
set_option maxRecDepth 100000 in
theorem q136 {s : State} {a : Array Value} (h : mT s) : (Jvm.Cond.fieldLink "ShareVault$State" (69 : Nat) "ShareVault$Building" "guardCount" "I").before a s = true := h _ (tin1 (List.mem_of_getElem? (l := tables_1_1) (i := 136) rfl)) rfl a
set_option maxRecDepth 100000 in
theorem q137 {s : State} {a : Array Value} (h : mT s) : (Jvm.Cond.fieldLink "ShareVault" (201 : Nat) "ShareVault$Building" "guardCount" "I").before a s = true := h _ (tin1 (List.mem_of_getElem? (l := tables_1_1) (i := 137) rfl)) rfl a
set_option maxRecDepth 100000 in
theorem q138 {s : State} {a : Array Value} (h : mT s) : (Jvm.Cond.fieldLink "ShareVault$Building" (18 : Nat) "ShareVault$Building" "guardZones" "[I").before a s = true := h _ (tin1 (List.mem_of_getElem? (l := tables_1_1) (i := 138) rfl)) rfl a
set_option maxRecDepth 100000 in
theorem q139 {s : State} {a : Array Value} (h : mT s) : (Jvm.Cond.fieldLink "ShareVault" (207 : Nat) "ShareVault$Building" "guardZones" "[I").before a s = true := h _ (tin1 (List.mem_of_getElem? (l := tables_1_1) (i := 139) rfl)) rfl a
set_option maxRecDepth 100000 in
theorem q140 {s : State} {a : Array Value} (h : mT s) : (Jvm.Cond.fieldLink "ShareVault$Building" (21 : Nat) "ShareVault$Building" "forwards" "[Z").before a s = true := h _ (tin1 (List.mem_of_getElem? (l := tables_1_1) (i := 140) rfl)) rfl a
set_option maxRecDepth 100000 in
theorem q141 {s : State} {a : Array Value} (h : mT s) : (Jvm.Cond.fieldLink "ShareVault$State" (149 : Nat) "ShareVault$Building" "forwards" "[Z").before a s = true := h _ (tin1 (List.mem_of_getElem? (l := tables_1_1) (i := 141) rfl)) rfl a
set_option maxRecDepth 100000 in
theorem q142 {s : State} {a : Array Value} (h : mT s) : (Jvm.Cond.fieldLink "ShareVault" (210 : Nat) "ShareVault$Building" "forwards" "[Z").before a s = true := h _ (tin1 (List.mem_of_getElem? (l := tables_1_1) (i := 142) rfl)) rfl a
set_option maxRecDepth 100000 in
theorem q143 {s : State} {a : Array Value} (h : mT s) : (Jvm.Cond.fieldLink "ShareVault$Building" (25 : Nat) "ShareVault$Building" "periods" "[I").before a s = true := h _ (tin1 (List.mem_of_getElem? (l := tables_1_1) (i := 143) rfl)) rfl a
set_option maxRecDepth 100000 in
theorem q168 {s : State} {a : Array Value} (h : mT s) : (Jvm.Cond.fieldLink "ShareVault$Journal" (22 : Nat) "ShareVault$Journal" "count" "I").before a s = true := h _ (tin1 (List.mem_of_getElem? (l := tables_1_1) (i := 168) rfl)) rfl a
set_option maxRecDepth 100000 in
theorem q169 {s : State} {a : Array Value} (h : mT s) : (Jvm.Cond.fieldLink "ShareVault" (263 : Nat) "ShareVault$Journal" "count" "I").before a s = true := h _ (tin1 (List.mem_of_getElem? (l := tables_1_1) (i := 169) rfl)) rfl a
set_option maxRecDepth 100000 in
theorem q170 {s : State} {a : Array Value} (h : mT s) : (Jvm.Cond.fieldLink "ShareVault$Journal" (9 : Nat) "ShareVault$Journal" "hours" "[I").before a s = true := h _ (tin1 (List.mem_of_getElem? (l := tables_1_1) (i := 170) rfl)) rfl a
set_option maxRecDepth 100000 in
theorem q171 {s : State} {a : Array Value} (h : mT s) : (Jvm.Cond.fieldLink "ShareVault" (271 : Nat) "ShareVault$Journal" "hours" "[I").before a s = true := h _ (tin1 (List.mem_of_getElem? (l := tables_1_1) (i := 171) rfl)) rfl a
set_option maxRecDepth 100000 in
theorem q172 {s : State} {a : Array Value} (h : mT s) : (Jvm.Cond.fieldLink "ShareVault$Journal" (15 : Nat) "ShareVault$Journal" "kinds" "[C").before a s = true := h _ (tin1 (List.mem_of_getElem? (l := tables_1_1) (i := 172) rfl)) rfl a
set_option maxRecDepth 100000 in
theorem q173 {s : State} {a : Array Value} (h : mT s) : (Jvm.Cond.fieldLink "ShareVault" (274 : Nat) "ShareVault$Journal" "kinds" "[C").before a s = true := h _ (tin1 (List.mem_of_getElem? (l := tables_1_1) (i := 173) rfl)) rfl a
set_option maxRecDepth 100000 in
theorem q174 {s : State} {a : Array Value} (h : mT s) : (Jvm.Cond.fieldLink "ShareVault$Journal" (19 : Nat) "ShareVault$Journal" "details" "[I").before a s = true := h _ (tin1 (List.mem_of_getElem? (l := tables_1_1) (i := 174) rfl)) rfl a
set_option maxRecDepth 100000 in
theorem q175 {s : State} {a : Array Value} (h : mT s) : (Jvm.Cond.fieldLink "ShareVault" (278 : Nat) "ShareVault$Journal" "details" "[I").before a s = true := h _ (tin1 (List.mem_of_getElem? (l := tables_1_1) (i := 175) rfl)) rfl a
set_option maxRecDepth 100000 in
theorem q186 {s : State} {a : Array Value} (h : mT s) : (Jvm.Cond.fieldLink "ShareVault$State" (12 : Nat) "ShareVault$State" "keys" "LShareVault$Keys;").before a s = true := h _ (tin1 (List.mem_of_getElem? (l := tables_1_1) (i := 186) rfl)) rfl a
set_option maxRecDepth 100000 in
theorem q187 {s : State} {a : Array Value} (h : mT s) : (Jvm.Cond.fieldLink "ShareVault" (115 : Nat) "ShareVault$State" "keys" "LShareVault$Keys;").before a s = true := h _ (tin1 (List.mem_of_getElem? (l := tables_1_1) (i := 187) rfl)) rfl a
set_option maxRecDepth 100000 in
theorem q188 {s : State} {a : Array Value} (h : mT s) : (Jvm.Cond.fieldLink "ShareVault$State" (21 : Nat) "ShareVault$State" "door" "LShareVault$Door;").before a s = true := h _ (tin1 (List.mem_of_getElem? (l := tables_1_1) (i := 188) rfl)) rfl a
set_option maxRecDepth 100000 in
theorem q189 {s : State} {a : Array Value} (h : mT s) : (Jvm.Cond.fieldLink "ShareVault" (186 : Nat) "ShareVault$State" "door" "LShareVault$Door;").before a s = true := h _ (tin1 (List.mem_of_getElem? (l := tables_1_1) (i := 189) rfl)) rfl a
set_option maxRecDepth 100000 in
theorem q190 {s : State} {a : Array Value} (h : mT s) : (Jvm.Cond.fieldLink "ShareVault$State" (28 : Nat) "ShareVault$State" "building" "LShareVault$Building;").before a s = true := h _ (tin1 (List.mem_of_getElem? (l := tables_1_1) (i := 190) rfl)) rfl a
set_option maxRecDepth 100000 in
theorem q191 {s : State} {a : Array Value} (h : mT s) : (Jvm.Cond.fieldLink "ShareVault" (109 : Nat) "ShareVault$State" "building" "LShareVault$Building;").before a s = true := h _ (tin1 (List.mem_of_getElem? (l := tables_1_1) (i := 191) rfl)) rfl a
set_option maxRecDepth 100000 in
theorem q192 {s : State} {a : Array Value} (h : mT s) : (Jvm.Cond.fieldLink "ShareVault$State" (35 : Nat) "ShareVault$State" "journal" "LShareVault$Journal;").before a s = true := h _ (tin1 (List.mem_of_getElem? (l := tables_1_1) (i := 192) rfl)) rfl a
set_option maxRecDepth 100000 in
theorem q193 {s : State} {a : Array Value} (h : mT s) : (Jvm.Cond.fieldLink "ShareVault" (259 : Nat) "ShareVault$State" "journal" "LShareVault$Journal;").before a s = true := h _ (tin1 (List.mem_of_getElem? (l := tables_1_1) (i := 193) rfl)) rfl a
set_option maxRecDepth 100000 in
theorem q194 {s : State} {a : Array Value} (h : mT s) : (Jvm.Cond.fieldLink "ShareVault$State" (79 : Nat) "ShareVault$State" "answer" "I").before a s = true := h _ (tin1 (List.mem_of_getElem? (l := tables_1_1) (i := 194) rfl)) rfl a
set_option maxRecDepth 100000 in
theorem q195 {s : State} {a : Array Value} (h : mT s) : (Jvm.Cond.fieldLink "ShareVault" (403 : Nat) "ShareVault$State" "answer" "I").before a s = true := h _ (tin1 (List.mem_of_getElem? (l := tables_1_1) (i := 195) rfl)) rfl a
set_option maxRecDepth 100000 in
theorem q216 {s : State} {a : Array Value} (h : mT s) : (Jvm.Cond.fieldLink "ShareVault$History" (13 : Nat) "ShareVault$History" "states" "[LShareVault$State;").before a s = true := h _ (tin1 (List.mem_of_getElem? (l := tables_1_1) (i := 216) rfl)) rfl a
set_option maxRecDepth 100000 in
theorem q217 {s : State} {a : Array Value} (h : mT s) : (Jvm.Cond.fieldLink "ShareVault$History" (18 : Nat) "ShareVault$History" "next" "I").before a s = true := h _ (tin1 (List.mem_of_getElem? (l := tables_1_1) (i := 217) rfl)) rfl a
set_option maxRecDepth 100000 in
theorem q218 {s : State} {a : Array Value} (h : mT s) : (Jvm.Cond.fieldLink "ShareVault$History" (26 : Nat) "ShareVault$History" "count" "I").before a s = true := h _ (tin1 (List.mem_of_getElem? (l := tables_1_1) (i := 218) rfl)) rfl a
set_option maxRecDepth 100000 in
theorem q219 {s : State} {a : Array Value} (h : mT s) : (Jvm.Cond.fieldLink "ShareVault" (382 : Nat) "ShareVault$History" "count" "I").before a s = true := h _ (tin1 (List.mem_of_getElem? (l := tables_1_1) (i := 219) rfl)) rfl a
set_option maxRecDepth 100000 in
theorem q237 {s : State} {a : Array Value} (h : mT s) : (Jvm.Cond.fieldLink "ShareVault$Solver" (11 : Nat) "ShareVault$Solver" "equations" "[[I").before a s = true := h _ (tin1 (List.mem_of_getElem? (l := tables_1_1) (i := 237) rfl)) rfl a
set_option maxRecDepth 100000 in
theorem q238 {s : State} {a : Array Value} (h : mT s) : (Jvm.Cond.fieldLink "ShareVault$Solver" (16 : Nat) "ShareVault$Solver" "polynomial" "[I").before a s = true := h _ (tin1 (List.mem_of_getElem? (l := tables_1_1) (i := 238) rfl)) rfl a
set_option maxRecDepth 100000 in
theorem q239 {s : State} {a : Array Value} (h : mT s) : (Jvm.Cond.fieldLink "ShareVault$Solver" (20 : Nat) "ShareVault$Solver" "chosen" "[I").before a s = true := h _ (tin1 (List.mem_of_getElem? (l := tables_1_1) (i := 239) rfl)) rfl a
set_option maxRecDepth 100000 in
theorem q256 {s : State} {a : Array Value} (h : mT s) : (Jvm.Cond.fieldLink "ShareVault$Commands" (9 : Nat) "ShareVault$Commands" "signs" "[C").before a s = true := h _ (tin2 (List.mem_of_getElem? (l := tables_1_2) (i := 16) rfl)) rfl a
set_option maxRecDepth 100000 in
theorem q257 {s : State} {a : Array Value} (h : mT s) : (Jvm.Cond.fieldLink "ShareVault$Commands" (26 : Nat) "ShareVault$Commands" "length" "I").before a s = true := h _ (tin2 (List.mem_of_getElem? (l := tables_1_2) (i := 17) rfl)) rfl a
set_option maxRecDepth 100000 in
theorem q258 {s : State} {a : Array Value} (h : mT s) : (Jvm.Cond.fieldLink "ShareVault" (306 : Nat) "ShareVault$Commands" "length" "I").before a s = true := h _ (tin2 (List.mem_of_getElem? (l := tables_1_2) (i := 18) rfl)) rfl a
set_option maxRecDepth 100000 in
theorem q259 {s : State} {a : Array Value} (h : mT s) : (Jvm.Cond.fieldLink "ShareVault$Commands" (30 : Nat) "ShareVault$Commands" "at" "I").before a s = true := h _ (tin2 (List.mem_of_getElem? (l := tables_1_2) (i := 19) rfl)) rfl a
set_option maxRecDepth 100000 in
theorem q260 {s : State} {a : Array Value} (h : mT s) : (Jvm.Cond.fieldLink "ShareVault$Commands" (33 : Nat) "ShareVault$Commands" "count" "I").before a s = true := h _ (tin2 (List.mem_of_getElem? (l := tables_1_2) (i := 20) rfl)) rfl a
set_option maxRecDepth 100000 in
theorem q261 {s : State} {a : Array Value} (h : mT s) : (Jvm.Cond.fieldLink "ShareVault" (326 : Nat) "ShareVault$Commands" "count" "I").before a s = true := h _ (tin2 (List.mem_of_getElem? (l := tables_1_2) (i := 21) rfl)) rfl a
set_option maxRecDepth 100000 in
theorem q262 {s : State} {a : Array Value} (h : mT s) : (Jvm.Cond.fieldLink "ShareVault$Commands" (17 : Nat) "ShareVault$Commands" "words" "[LShareVault$Word;").before a s = true := h _ (tin2 (List.mem_of_getElem? (l := tables_1_2) (i := 22) rfl)) rfl a
set_option maxRecDepth 100000 in
theorem q263 {s : State} {a : Array Value} (h : mT s) : (Jvm.Cond.fieldLink "ShareVault" (327 : Nat) "ShareVault$Commands" "words" "[LShareVault$Word;").before a s = true := h _ (tin2 (List.mem_of_getElem? (l := tables_1_2) (i := 23) rfl)) rfl a
set_option maxRecDepth 100000 in
theorem q264 {s : State} {a : Array Value} (h : mT s) : (Jvm.Cond.fieldLink "ShareVault$Commands" (23 : Nat) "ShareVault$Commands" "numbers" "[[I").before a s = true := h _ (tin2 (List.mem_of_getElem? (l := tables_1_2) (i := 24) rfl)) rfl a
set_option maxRecDepth 100000 in
theorem q265 {s : State} {a : Array Value} (h : mT s) : (Jvm.Cond.fieldLink "ShareVault" (331 : Nat) "ShareVault$Commands" "numbers" "[[I").before a s = true := h _ (tin2 (List.mem_of_getElem? (l := tables_1_2) (i := 25) rfl)) rfl a
set_option maxRecDepth 100000 in
theorem q266 {s : State} {a : Array Value} (h : mT s) : (Jvm.Cond.fieldLink "ShareVault$Commands" (48 : Nat) "ShareVault$Commands" "numberCount" "I").before a s = true := h _ (tin2 (List.mem_of_getElem? (l := tables_1_2) (i := 26) rfl)) rfl a
set_option maxRecDepth 100000 in
theorem q294 {s : State} {a : Array Value} (h : mT s) : (Jvm.Cond.fieldLink "ShareVault" (10 : Nat) "ShareVault" "state" "LShareVault$State;").before a s = true := h _ (tin2 (List.mem_of_getElem? (l := tables_1_2) (i := 54) rfl)) rfl a
set_option maxRecDepth 100000 in
theorem q295 {s : State} {a : Array Value} (h : mT s) : (Jvm.Cond.fieldLink "ShareVault" (19 : Nat) "ShareVault" "history" "LShareVault$History;").before a s = true := h _ (tin2 (List.mem_of_getElem? (l := tables_1_2) (i := 55) rfl)) rfl a
set_option maxRecDepth 100000 in
theorem q296 {s : State} {a : Array Value} (h : mT s) : (Jvm.Cond.fieldLink "ShareVault" (23 : Nat) "ShareVault" "saved" "LShareVault$State;").before a s = true := h _ (tin2 (List.mem_of_getElem? (l := tables_1_2) (i := 56) rfl)) rfl a
set_option maxRecDepth 100000 in
theorem q297 {s : State} {a : Array Value} (h : mT s) : (Jvm.Cond.fieldLink "ShareVault" (388 : Nat) "ShareVault" "isSaved" "Z").before a s = true := h _ (tin2 (List.mem_of_getElem? (l := tables_1_2) (i := 57) rfl)) rfl a
set_option maxRecDepth 100000 in
theorem q298 {s : State} {a : Array Value} (h : mT s) : (Jvm.Cond.fieldLink "ShareVault" (29 : Nat) "ShareVault" "forecast" "LShareVault$Building;").before a s = true := h _ (tin2 (List.mem_of_getElem? (l := tables_1_2) (i := 58) rfl)) rfl a
set_option maxRecDepth 100000 in
theorem q299 {s : State} {a : Array Value} (h : mT s) : (Jvm.Cond.fieldLink "ShareVault" (36 : Nat) "ShareVault" "solver" "LShareVault$Solver;").before a s = true := h _ (tin2 (List.mem_of_getElem? (l := tables_1_2) (i := 59) rfl)) rfl a
set_option maxRecDepth 100000 in
theorem q300 {s : State} {a : Array Value} (h : mT s) : (Jvm.Cond.fieldLink "ShareVault" (43 : Nat) "ShareVault" "commands" "LShareVault$Commands;").before a s = true := h _ (tin2 (List.mem_of_getElem? (l := tables_1_2) (i := 60) rfl)) rfl a
set_option maxRecDepth 100000 in
theorem q302 {s : State} {a : Array Value} (h : mT s) : (Jvm.Cond.fieldLink "ShareVault" (54 : Nat) "ShareVault" "lastReason" "I").before a s = true := h _ (tin2 (List.mem_of_getElem? (l := tables_1_2) (i := 62) rfl)) rfl a
set_option maxRecDepth 100000 in
theorem q303 {s : State} {a : Array Value} (h : mT s) : (Jvm.Cond.fieldLink "ShareVault" (301 : Nat) "ShareVault" "lastDetail" "I").before a s = true := h _ (tin2 (List.mem_of_getElem? (l := tables_1_2) (i := 63) rfl)) rfl a
set_option maxRecDepth 100000 in
theorem q304 {s : State} {a : Array Value} (h : mT s) : (Jvm.Cond.fieldLink "ShareVault" (58 : Nat) "ShareVault" "lastCause" "I").before a s = true := h _ (tin2 (List.mem_of_getElem? (l := tables_1_2) (i := 64) rfl)) rfl a
set_option maxRecDepth 100000 in
theorem q305 {s : State} {a : Array Value} (h : mT s) : (Jvm.Cond.fieldLink "ShareVault" (61 : Nat) "ShareVault" "lastError" "I").before a s = true := h _ (tin2 (List.mem_of_getElem? (l := tables_1_2) (i := 65) rfl)) rfl a
set_option maxRecDepth 100000 in
theorem q386 {s : State} {a : Array Value} (h : mT s) : (Jvm.Cond.methodLink "ShareVault" (128 : Nat) ({ cls := "ShareVault", name := "requireSeal", desc := "()V" } : Jvm.MethodName)).before a s = true := h _ (tin2 (List.mem_of_getElem? (l := tables_1_2) (i := 146) rfl)) rfl a
set_option maxRecDepth 100000 in
theorem q388 {s : State} {a : Array Value} (h : mT s) : (Jvm.Cond.instanceMethod ({ cls := "ShareVault", name := "requireSeal", desc := "()V" } : Jvm.MethodName)).before a s = true := h _ (tin2 (List.mem_of_getElem? (l := tables_1_2) (i := 148) rfl)) rfl a
set_option maxRecDepth 100000 in
theorem q390 {s : State} {a : Array Value} (h : mT s) : (Jvm.Cond.classLink "ShareVault" (151 : Nat) "java/util/NoSuchElementException").before a s = true := h _ (tin2 (List.mem_of_getElem? (l := tables_1_2) (i := 150) rfl)) rfl a
set_option maxRecDepth 100000 in
theorem q493 {s : State} {a : Array Value} (h : mT s) : (Jvm.Cond.methodLink "ShareVault" (134 : Nat) ({ cls := "ShareVault", name := "requireHolder", desc := "(I)V" } : Jvm.MethodName)).before a s = true := h _ (tin3 (List.mem_of_getElem? (l := tables_1_3) (i := 13) rfl)) rfl a
set_option maxRecDepth 100000 in
theorem q495 {s : State} {a : Array Value} (h : mT s) : (Jvm.Cond.instanceMethod ({ cls := "ShareVault", name := "requireHolder", desc := "(I)V" } : Jvm.MethodName)).before a s = true := h _ (tin3 (List.mem_of_getElem? (l := tables_1_3) (i := 15) rfl)) rfl a
set_option maxRecDepth 100000 in
theorem q497 {s : State} {a : Array Value} (h : mT s) : (Jvm.Cond.methodLink "ShareVault" (406 : Nat) ({ cls := "ShareVault$Keys", name := "hasHolder", desc := "(I)Z" } : Jvm.MethodName)).before a s = true := h _ (tin3 (List.mem_of_getElem? (l := tables_1_3) (i := 17) rfl)) rfl a
set_option maxRecDepth 100000 in
theorem q498 {s : State} {a : Array Value} (h : mT s) : (Jvm.Cond.instanceMethod ({ cls := "ShareVault$Keys", name := "hasHolder", desc := "(I)Z" } : Jvm.MethodName)).before a s = true := h _ (tin3 (List.mem_of_getElem? (l := tables_1_3) (i := 18) rfl)) rfl a
set_option maxRecDepth 100000 in
theorem q499 {s : State} {a : Array Value} (h : mT s) : (Jvm.Cond.selects "ShareVault$Keys" ({ cls := "ShareVault$Keys", name := "hasHolder", desc := "(I)Z" } : Jvm.MethodName) ({ cls := "ShareVault$Keys", name := "hasHolder", desc := "(I)Z" } : Jvm.MethodName)).before a s = true := h _ (tin3 (List.mem_of_getElem? (l := tables_1_3) (i := 19) rfl)) rfl a
set_option maxRecDepth 100000 in
theorem q501 {s : State} {a : Array Value} (h : mT s) : (Jvm.Cond.classLink "ShareVault" (374 : Nat) "java/lang/IndexOutOfBoundsException").before a s = true := h _ (tin3 (List.mem_of_getElem? (l := tables_1_3) (i := 21) rfl)) rfl a
set_option maxRecDepth 100000 in
theorem q514 {s : State} {a : Array Value} (h : mT s) : (Jvm.Cond.methodLink "ShareVault" (145 : Nat) ({ cls := "ShareVault$Keys", name := "placeOf", desc := "(I)I" } : Jvm.MethodName)).before a s = true := h _ (tin3 (List.mem_of_getElem? (l := tables_1_3) (i := 34) rfl)) rfl a
set_option maxRecDepth 100000 in
theorem q515 {s : State} {a : Array Value} (h : mT s) : (Jvm.Cond.instanceMethod ({ cls := "ShareVault$Keys", name := "placeOf", desc := "(I)I" } : Jvm.MethodName)).before a s = true := h _ (tin3 (List.mem_of_getElem? (l := tables_1_3) (i := 35) rfl)) rfl a
set_option maxRecDepth 100000 in
theorem q516 {s : State} {a : Array Value} (h : mT s) : (Jvm.Cond.selects "ShareVault$Keys" ({ cls := "ShareVault$Keys", name := "placeOf", desc := "(I)I" } : Jvm.MethodName) ({ cls := "ShareVault$Keys", name := "placeOf", desc := "(I)I" } : Jvm.MethodName)).before a s = true := h _ (tin3 (List.mem_of_getElem? (l := tables_1_3) (i := 36) rfl)) rfl a
set_option maxRecDepth 100000 in
theorem q533 {s : State} {a : Array Value} (h : mT s) : (Jvm.Cond.methodLink "ShareVault" (161 : Nat) ({ cls := "ShareVault", name := "requireEnoughKeys", desc := "()V" } : Jvm.MethodName)).before a s = true := h _ (tin3 (List.mem_of_getElem? (l := tables_1_3) (i := 53) rfl)) rfl a
set_option maxRecDepth 100000 in
theorem q535 {s : State} {a : Array Value} (h : mT s) : (Jvm.Cond.instanceMethod ({ cls := "ShareVault", name := "requireEnoughKeys", desc := "()V" } : Jvm.MethodName)).before a s = true := h _ (tin3 (List.mem_of_getElem? (l := tables_1_3) (i := 55) rfl)) rfl a
set_option maxRecDepth 100000 in
theorem q537 {s : State} {a : Array Value} (h : mT s) : (Jvm.Cond.methodLink "ShareVault" (425 : Nat) ({ cls := "ShareVault$Keys", name := "areEnough", desc := "()Z" } : Jvm.MethodName)).before a s = true := h _ (tin3 (List.mem_of_getElem? (l := tables_1_3) (i := 57) rfl)) rfl a
set_option maxRecDepth 100000 in
theorem q538 {s : State} {a : Array Value} (h : mT s) : (Jvm.Cond.instanceMethod ({ cls := "ShareVault$Keys", name := "areEnough", desc := "()Z" } : Jvm.MethodName)).before a s = true := h _ (tin3 (List.mem_of_getElem? (l := tables_1_3) (i := 58) rfl)) rfl a
set_option maxRecDepth 100000 in
theorem q539 {s : State} {a : Array Value} (h : mT s) : (Jvm.Cond.selects "ShareVault$Keys" ({ cls := "ShareVault$Keys", name := "areEnough", desc := "()Z" } : Jvm.MethodName) ({ cls := "ShareVault$Keys", name := "areEnough", desc := "()Z" } : Jvm.MethodName)).before a s = true := h _ (tin3 (List.mem_of_getElem? (l := tables_1_3) (i := 59) rfl)) rfl a
set_option maxRecDepth 100000 in
theorem q542 {s : State} {a : Array Value} (h : mT s) : (Jvm.Cond.methodLink "ShareVault" (164 : Nat) ({ cls := "ShareVault$Keys", name := "toldAt", desc := "(I)I" } : Jvm.MethodName)).before a s = true := h _ (tin3 (List.mem_of_getElem? (l := tables_1_3) (i := 62) rfl)) rfl a
set_option maxRecDepth 100000 in
theorem q543 {s : State} {a : Array Value} (h : mT s) : (Jvm.Cond.instanceMethod ({ cls := "ShareVault$Keys", name := "toldAt", desc := "(I)I" } : Jvm.MethodName)).before a s = true := h _ (tin3 (List.mem_of_getElem? (l := tables_1_3) (i := 63) rfl)) rfl a
set_option maxRecDepth 100000 in
theorem q544 {s : State} {a : Array Value} (h : mT s) : (Jvm.Cond.selects "ShareVault$Keys" ({ cls := "ShareVault$Keys", name := "toldAt", desc := "(I)I" } : Jvm.MethodName) ({ cls := "ShareVault$Keys", name := "toldAt", desc := "(I)I" } : Jvm.MethodName)).before a s = true := h _ (tin3 (List.mem_of_getElem? (l := tables_1_3) (i := 64) rfl)) rfl a
set_option maxRecDepth 100000 in
theorem q546 {s : State} {a : Array Value} (h : mT s) : (Jvm.Cond.methodLink "ShareVault$Keys" (52 : Nat) ({ cls := "ShareVault$Keys", name := "valueThrough", desc := "([II)I" } : Jvm.MethodName)).before a s = true := h _ (tin3 (List.mem_of_getElem? (l := tables_1_3) (i := 66) rfl)) rfl a
set_option maxRecDepth 100000 in
theorem q548 {s : State} {a : Array Value} (h : mT s) : (Jvm.Cond.instanceMethod ({ cls := "ShareVault$Keys", name := "valueThrough", desc := "([II)I" } : Jvm.MethodName)).before a s = true := h _ (tin3 (List.mem_of_getElem? (l := tables_1_3) (i := 68) rfl)) rfl a
set_option maxRecDepth 100000 in
theorem q550 {s : State} {a : Array Value} (h : mT s) : (Jvm.Cond.methodLink "ShareVault$Keys" (62 : Nat) ({ cls := "ShareVault$Keys", name := "quotientsOf", desc := "([III)I" } : Jvm.MethodName)).before a s = true := h _ (tin3 (List.mem_of_getElem? (l := tables_1_3) (i := 70) rfl)) rfl a
set_option maxRecDepth 100000 in
theorem q552 {s : State} {a : Array Value} (h : mT s) : (Jvm.Cond.instanceMethod ({ cls := "ShareVault$Keys", name := "quotientsOf", desc := "([III)I" } : Jvm.MethodName)).before a s = true := h _ (tin3 (List.mem_of_getElem? (l := tables_1_3) (i := 72) rfl)) rfl a
set_option maxRecDepth 100000 in
theorem q554 {s : State} {a : Array Value} (h : mT s) : (Jvm.Cond.fieldLinkNest "ShareVault$Keys" (66 : Nat) "ShareVault" "INVERSES" "[I" "ShareVault").before a s = true := h _ (tin3 (List.mem_of_getElem? (l := tables_1_3) (i := 74) rfl)) rfl a
set_option maxRecDepth 100000 in
theorem q563 {s : State} {a : Array Value} (h : mT s) : (Jvm.Cond.methodLink "ShareVault" (176 : Nat) ({ cls := "ShareVault$Keys", name := "allAgree", desc := "()Z" } : Jvm.MethodName)).before a s = true := h _ (tin3 (List.mem_of_getElem? (l := tables_1_3) (i := 83) rfl)) rfl a
set_option maxRecDepth 100000 in
theorem q564 {s : State} {a : Array Value} (h : mT s) : (Jvm.Cond.instanceMethod ({ cls := "ShareVault$Keys", name := "allAgree", desc := "()Z" } : Jvm.MethodName)).before a s = true := h _ (tin3 (List.mem_of_getElem? (l := tables_1_3) (i := 84) rfl)) rfl a
set_option maxRecDepth 100000 in
theorem q565 {s : State} {a : Array Value} (h : mT s) : (Jvm.Cond.selects "ShareVault$Keys" ({ cls := "ShareVault$Keys", name := "allAgree", desc := "()Z" } : Jvm.MethodName) ({ cls := "ShareVault$Keys", name := "allAgree", desc := "()Z" } : Jvm.MethodName)).before a s = true := h _ (tin3 (List.mem_of_getElem? (l := tables_1_3) (i := 85) rfl)) rfl a
set_option maxRecDepth 100000 in
theorem q567 {s : State} {a : Array Value} (h : mT s) : (Jvm.Cond.methodLink "ShareVault$Keys" (55 : Nat) ({ cls := "ShareVault$Keys", name := "isOneCurve", desc := "([II)Z" } : Jvm.MethodName)).before a s = true := h _ (tin3 (List.mem_of_getElem? (l := tables_1_3) (i := 87) rfl)) rfl a
set_option maxRecDepth 100000 in
theorem q568 {s : State} {a : Array Value} (h : mT s) : (Jvm.Cond.instanceMethod ({ cls := "ShareVault$Keys", name := "isOneCurve", desc := "([II)Z" } : Jvm.MethodName)).before a s = true := h _ (tin3 (List.mem_of_getElem? (l := tables_1_3) (i := 88) rfl)) rfl a
set_option maxRecDepth 100000 in
theorem q569 {s : State} {a : Array Value} (h : mT s) : (Jvm.Cond.selects "ShareVault$Keys" ({ cls := "ShareVault$Keys", name := "isOneCurve", desc := "([II)Z" } : Jvm.MethodName) ({ cls := "ShareVault$Keys", name := "isOneCurve", desc := "([II)Z" } : Jvm.MethodName)).before a s = true := h _ (tin3 (List.mem_of_getElem? (l := tables_1_3) (i := 89) rfl)) rfl a
set_option maxRecDepth 100000 in
theorem q571 {s : State} {a : Array Value} (h : mT s) : (Jvm.Cond.methodLink "ShareVault$Keys" (41 : Nat) ({ cls := "ShareVault$Keys", name := "positionOf", desc := "(I)I" } : Jvm.MethodName)).before a s = true := h _ (tin3 (List.mem_of_getElem? (l := tables_1_3) (i := 91) rfl)) rfl a
set_option maxRecDepth 100000 in
theorem q572 {s : State} {a : Array Value} (h : mT s) : (Jvm.Cond.static ({ cls := "ShareVault$Keys", name := "positionOf", desc := "(I)I" } : Jvm.MethodName)).before a s = true := h _ (tin3 (List.mem_of_getElem? (l := tables_1_3) (i := 92) rfl)) rfl a
set_option maxRecDepth 100000 in
theorem q582 {s : State} {a : Array Value} (h : mT s) : (Jvm.Cond.methodLink "ShareVault" (214 : Nat) ({ cls := "ShareVault", name := "requireZone", desc := "(I)V" } : Jvm.MethodName)).before a s = true := h _ (tin3 (List.mem_of_getElem? (l := tables_1_3) (i := 102) rfl)) rfl a
set_option maxRecDepth 100000 in
theorem q584 {s : State} {a : Array Value} (h : mT s) : (Jvm.Cond.instanceMethod ({ cls := "ShareVault", name := "requireZone", desc := "(I)V" } : Jvm.MethodName)).before a s = true := h _ (tin3 (List.mem_of_getElem? (l := tables_1_3) (i := 104) rfl)) rfl a
set_option maxRecDepth 100000 in
theorem q586 {s : State} {a : Array Value} (h : mT s) : (Jvm.Cond.methodLink "ShareVault" (418 : Nat) ({ cls := "ShareVault$Building", name := "hasZone", desc := "(I)Z" } : Jvm.MethodName)).before a s = true := h _ (tin3 (List.mem_of_getElem? (l := tables_1_3) (i := 106) rfl)) rfl a
set_option maxRecDepth 100000 in
theorem q587 {s : State} {a : Array Value} (h : mT s) : (Jvm.Cond.static ({ cls := "ShareVault$Building", name := "hasZone", desc := "(I)Z" } : Jvm.MethodName)).before a s = true := h _ (tin3 (List.mem_of_getElem? (l := tables_1_3) (i := 107) rfl)) rfl a
set_option maxRecDepth 100000 in
theorem q589 {s : State} {a : Array Value} (h : mT s) : (Jvm.Cond.classLink "ShareVault" (171 : Nat) "java/lang/IllegalArgumentException").before a s = true := h _ (tin3 (List.mem_of_getElem? (l := tables_1_3) (i := 109) rfl)) rfl a
set_option maxRecDepth 100000 in
theorem q605 {s : State} {a : Array Value} (h : mT s) : (Jvm.Cond.methodLink "ShareVault" (227 : Nat) ({ cls := "ShareVault", name := "requireGuards", desc := "()V" } : Jvm.MethodName)).before a s = true := h _ (tin3 (List.mem_of_getElem? (l := tables_1_3) (i := 125) rfl)) rfl a
set_option maxRecDepth 100000 in
theorem q607 {s : State} {a : Array Value} (h : mT s) : (Jvm.Cond.instanceMethod ({ cls := "ShareVault", name := "requireGuards", desc := "()V" } : Jvm.MethodName)).before a s = true := h _ (tin3 (List.mem_of_getElem? (l := tables_1_3) (i := 127) rfl)) rfl a
set_option maxRecDepth 100000 in
theorem q610 {s : State} {a : Array Value} (h : mT s) : (Jvm.Cond.methodLink "ShareVault" (230 : Nat) ({ cls := "ShareVault", name := "visitByHours", desc := "(I)I" } : Jvm.MethodName)).before a s = true := h _ (tin3 (List.mem_of_getElem? (l := tables_1_3) (i := 130) rfl)) rfl a
set_option maxRecDepth 100000 in
theorem q612 {s : State} {a : Array Value} (h : mT s) : (Jvm.Cond.instanceMethod ({ cls := "ShareVault", name := "visitByHours", desc := "(I)I" } : Jvm.MethodName)).before a s = true := h _ (tin3 (List.mem_of_getElem? (l := tables_1_3) (i := 132) rfl)) rfl a
set_option maxRecDepth 100000 in
theorem q614 {s : State} {a : Array Value} (h : mT s) : (Jvm.Cond.methodLink "ShareVault" (238 : Nat) ({ cls := "ShareVault$Building", name := "copyFrom", desc := "(LShareVault$Building;)V" } : Jvm.MethodName)).before a s = true := h _ (tin3 (List.mem_of_getElem? (l := tables_1_3) (i := 134) rfl)) rfl a
set_option maxRecDepth 100000 in
theorem q615 {s : State} {a : Array Value} (h : mT s) : (Jvm.Cond.instanceMethod ({ cls := "ShareVault$Building", name := "copyFrom", desc := "(LShareVault$Building;)V" } : Jvm.MethodName)).before a s = true := h _ (tin3 (List.mem_of_getElem? (l := tables_1_3) (i := 135) rfl)) rfl a
set_option maxRecDepth 100000 in
theorem q616 {s : State} {a : Array Value} (h : mT s) : (Jvm.Cond.selects "ShareVault$Building" ({ cls := "ShareVault$Building", name := "copyFrom", desc := "(LShareVault$Building;)V" } : Jvm.MethodName) ({ cls := "ShareVault$Building", name := "copyFrom", desc := "(LShareVault$Building;)V" } : Jvm.MethodName)).before a s = true := h _ (tin3 (List.mem_of_getElem? (l := tables_1_3) (i := 136) rfl)) rfl a
set_option maxRecDepth 100000 in
theorem q618 {s : State} {a : Array Value} (h : mT s) : (Jvm.Cond.methodLink "ShareVault$Building" (32 : Nat) ({ cls := "java/lang/System", name := "arraycopy", desc := "(Ljava/lang/Object;ILjava/lang/Object;II)V" } : Jvm.MethodName)).before a s = true := h _ (tin3 (List.mem_of_getElem? (l := tables_1_3) (i := 138) rfl)) rfl a
set_option maxRecDepth 100000 in
theorem q619 {s : State} {a : Array Value} (h : mT s) : (Jvm.Cond.static ({ cls := "java/lang/System", name := "arraycopy", desc := "(Ljava/lang/Object;ILjava/lang/Object;II)V" } : Jvm.MethodName)).before a s = true := h _ (tin3 (List.mem_of_getElem? (l := tables_1_3) (i := 139) rfl)) rfl a
set_option maxRecDepth 100000 in
theorem q620 {s : State} {a : Array Value} (h : mT s) : (Jvm.Cond.native ({ cls := "java/lang/System", name := "arraycopy", desc := "(Ljava/lang/Object;ILjava/lang/Object;II)V" } : Jvm.MethodName)).before a s = true := h _ (tin3 (List.mem_of_getElem? (l := tables_1_3) (i := 140) rfl)) rfl a
set_option maxRecDepth 100000 in
theorem q621 {s : State} {a : Array Value} (h : mT s) : (Jvm.Cond.methodLink "ShareVault" (220 : Nat) ({ cls := "ShareVault$Building", name := "hasGuardIn", desc := "(I)Z" } : Jvm.MethodName)).before a s = true := h _ (tin3 (List.mem_of_getElem? (l := tables_1_3) (i := 141) rfl)) rfl a
set_option maxRecDepth 100000 in
theorem q622 {s : State} {a : Array Value} (h : mT s) : (Jvm.Cond.instanceMethod ({ cls := "ShareVault$Building", name := "hasGuardIn", desc := "(I)Z" } : Jvm.MethodName)).before a s = true := h _ (tin3 (List.mem_of_getElem? (l := tables_1_3) (i := 142) rfl)) rfl a
set_option maxRecDepth 100000 in
theorem q623 {s : State} {a : Array Value} (h : mT s) : (Jvm.Cond.selects "ShareVault$Building" ({ cls := "ShareVault$Building", name := "hasGuardIn", desc := "(I)Z" } : Jvm.MethodName) ({ cls := "ShareVault$Building", name := "hasGuardIn", desc := "(I)Z" } : Jvm.MethodName)).before a s = true := h _ (tin3 (List.mem_of_getElem? (l := tables_1_3) (i := 143) rfl)) rfl a
set_option maxRecDepth 100000 in
theorem q625 {s : State} {a : Array Value} (h : mT s) : (Jvm.Cond.methodLink "ShareVault" (434 : Nat) ({ cls := "ShareVault$Building", name := "beginHour", desc := "()V" } : Jvm.MethodName)).before a s = true := h _ (tin3 (List.mem_of_getElem? (l := tables_1_3) (i := 145) rfl)) rfl a
set_option maxRecDepth 100000 in
theorem q626 {s : State} {a : Array Value} (h : mT s) : (Jvm.Cond.instanceMethod ({ cls := "ShareVault$Building", name := "beginHour", desc := "()V" } : Jvm.MethodName)).before a s = true := h _ (tin3 (List.mem_of_getElem? (l := tables_1_3) (i := 146) rfl)) rfl a
set_option maxRecDepth 100000 in
theorem q627 {s : State} {a : Array Value} (h : mT s) : (Jvm.Cond.selects "ShareVault$Building" ({ cls := "ShareVault$Building", name := "beginHour", desc := "()V" } : Jvm.MethodName) ({ cls := "ShareVault$Building", name := "beginHour", desc := "()V" } : Jvm.MethodName)).before a s = true := h _ (tin3 (List.mem_of_getElem? (l := tables_1_3) (i := 147) rfl)) rfl a
set_option maxRecDepth 100000 in
theorem q637 {s : State} {a : Array Value} (h : mT s) : (Jvm.Cond.methodLink "ShareVault" (242 : Nat) ({ cls := "ShareVault$Building", name := "passOneHour", desc := "()I" } : Jvm.MethodName)).before a s = true := h _ (tin3 (List.mem_of_getElem? (l := tables_1_3) (i := 157) rfl)) rfl a
set_option maxRecDepth 100000 in
theorem q638 {s : State} {a : Array Value} (h : mT s) : (Jvm.Cond.instanceMethod ({ cls := "ShareVault$Building", name := "passOneHour", desc := "()I" } : Jvm.MethodName)).before a s = true := h _ (tin3 (List.mem_of_getElem? (l := tables_1_3) (i := 158) rfl)) rfl a
set_option maxRecDepth 100000 in
theorem q639 {s : State} {a : Array Value} (h : mT s) : (Jvm.Cond.selects "ShareVault$Building" ({ cls := "ShareVault$Building", name := "passOneHour", desc := "()I" } : Jvm.MethodName) ({ cls := "ShareVault$Building", name := "passOneHour", desc := "()I" } : Jvm.MethodName)).before a s = true := h _ (tin3 (List.mem_of_getElem? (l := tables_1_3) (i := 159) rfl)) rfl a
set_option maxRecDepth 100000 in
theorem q641 {s : State} {a : Array Value} (h : mT s) : (Jvm.Cond.methodLink "ShareVault$Building" (48 : Nat) ({ cls := "ShareVault$Building", name := "beginHour", desc := "()V" } : Jvm.MethodName)).before a s = true := h _ (tin3 (List.mem_of_getElem? (l := tables_1_3) (i := 161) rfl)) rfl a
set_option maxRecDepth 100000 in
theorem q642 {s : State} {a : Array Value} (h : mT s) : (Jvm.Cond.methodLink "ShareVault$Building" (44 : Nat) ({ cls := "ShareVault$Building", name := "hasGuardIn", desc := "(I)Z" } : Jvm.MethodName)).before a s = true := h _ (tin3 (List.mem_of_getElem? (l := tables_1_3) (i := 162) rfl)) rfl a
set_option maxRecDepth 100000 in
theorem q643 {s : State} {a : Array Value} (h : mT s) : (Jvm.Cond.methodLink "ShareVault$Building" (51 : Nat) ({ cls := "ShareVault$Building", name := "hasGuardBeside", desc := "(I)Z" } : Jvm.MethodName)).before a s = true := h _ (tin3 (List.mem_of_getElem? (l := tables_1_3) (i := 163) rfl)) rfl a
set_option maxRecDepth 100000 in
theorem q644 {s : State} {a : Array Value} (h : mT s) : (Jvm.Cond.instanceMethod ({ cls := "ShareVault$Building", name := "hasGuardBeside", desc := "(I)Z" } : Jvm.MethodName)).before a s = true := h _ (tin3 (List.mem_of_getElem? (l := tables_1_3) (i := 164) rfl)) rfl a
set_option maxRecDepth 100000 in
theorem q645 {s : State} {a : Array Value} (h : mT s) : (Jvm.Cond.selects "ShareVault$Building" ({ cls := "ShareVault$Building", name := "hasGuardBeside", desc := "(I)Z" } : Jvm.MethodName) ({ cls := "ShareVault$Building", name := "hasGuardBeside", desc := "(I)Z" } : Jvm.MethodName)).before a s = true := h _ (tin3 (List.mem_of_getElem? (l := tables_1_3) (i := 165) rfl)) rfl a
set_option maxRecDepth 100000 in
theorem q654 {s : State} {a : Array Value} (h : mT s) : (Jvm.Cond.methodLink "ShareVault" (268 : Nat) ({ cls := "ShareVault", name := "requireEntry", desc := "(I)V" } : Jvm.MethodName)).before a s = true := h _ (tin3 (List.mem_of_getElem? (l := tables_1_3) (i := 174) rfl)) rfl a
set_option maxRecDepth 100000 in
theorem q656 {s : State} {a : Array Value} (h : mT s) : (Jvm.Cond.instanceMethod ({ cls := "ShareVault", name := "requireEntry", desc := "(I)V" } : Jvm.MethodName)).before a s = true := h _ (tin3 (List.mem_of_getElem? (l := tables_1_3) (i := 176) rfl)) rfl a
set_option maxRecDepth 100000 in
theorem q687 {s : State} {a : Array Value} (h : mT s) : (Jvm.Cond.methodLink "ShareVault" (204 : Nat) ({ cls := "ShareVault", name := "requireGuard", desc := "(I)V" } : Jvm.MethodName)).before a s = true := h _ (tin3 (List.mem_of_getElem? (l := tables_1_3) (i := 207) rfl)) rfl a
set_option maxRecDepth 100000 in
theorem q689 {s : State} {a : Array Value} (h : mT s) : (Jvm.Cond.instanceMethod ({ cls := "ShareVault", name := "requireGuard", desc := "(I)V" } : Jvm.MethodName)).before a s = true := h _ (tin3 (List.mem_of_getElem? (l := tables_1_3) (i := 209) rfl)) rfl a
set_option maxRecDepth 100000 in
theorem q691 {s : State} {a : Array Value} (h : mT s) : (Jvm.Cond.methodLink "ShareVault" (411 : Nat) ({ cls := "ShareVault$Building", name := "hasGuard", desc := "(I)Z" } : Jvm.MethodName)).before a s = true := h _ (tin3 (List.mem_of_getElem? (l := tables_1_3) (i := 211) rfl)) rfl a
set_option maxRecDepth 100000 in
theorem q692 {s : State} {a : Array Value} (h : mT s) : (Jvm.Cond.instanceMethod ({ cls := "ShareVault$Building", name := "hasGuard", desc := "(I)Z" } : Jvm.MethodName)).before a s = true := h _ (tin3 (List.mem_of_getElem? (l := tables_1_3) (i := 212) rfl)) rfl a
set_option maxRecDepth 100000 in
theorem q693 {s : State} {a : Array Value} (h : mT s) : (Jvm.Cond.selects "ShareVault$Building" ({ cls := "ShareVault$Building", name := "hasGuard", desc := "(I)Z" } : Jvm.MethodName) ({ cls := "ShareVault$Building", name := "hasGuard", desc := "(I)Z" } : Jvm.MethodName)).before a s = true := h _ (tin3 (List.mem_of_getElem? (l := tables_1_3) (i := 213) rfl)) rfl a
set_option maxRecDepth 100000 in
theorem q706 {s : State} {a : Array Value} (h : mT s) : (Jvm.Cond.methodLink "ShareVault" (142 : Nat) ({ cls := "ShareVault$Keys", name := "correctShare", desc := "(I)I" } : Jvm.MethodName)).before a s = true := h _ (tin3 (List.mem_of_getElem? (l := tables_1_3) (i := 226) rfl)) rfl a
set_option maxRecDepth 100000 in
theorem q707 {s : State} {a : Array Value} (h : mT s) : (Jvm.Cond.instanceMethod ({ cls := "ShareVault$Keys", name := "correctShare", desc := "(I)I" } : Jvm.MethodName)).before a s = true := h _ (tin3 (List.mem_of_getElem? (l := tables_1_3) (i := 227) rfl)) rfl a
set_option maxRecDepth 100000 in
theorem q708 {s : State} {a : Array Value} (h : mT s) : (Jvm.Cond.selects "ShareVault$Keys" ({ cls := "ShareVault$Keys", name := "correctShare", desc := "(I)I" } : Jvm.MethodName) ({ cls := "ShareVault$Keys", name := "correctShare", desc := "(I)I" } : Jvm.MethodName)).before a s = true := h _ (tin3 (List.mem_of_getElem? (l := tables_1_3) (i := 228) rfl)) rfl a
set_option maxRecDepth 100000 in
theorem q710 {s : State} {a : Array Value} (h : mT s) : (Jvm.Cond.methodLink "ShareVault$Keys" (45 : Nat) ({ cls := "ShareVault$Keys", name := "valueOn", desc := "([II)I" } : Jvm.MethodName)).before a s = true := h _ (tin3 (List.mem_of_getElem? (l := tables_1_3) (i := 230) rfl)) rfl a
set_option maxRecDepth 100000 in
theorem q711 {s : State} {a : Array Value} (h : mT s) : (Jvm.Cond.static ({ cls := "ShareVault$Keys", name := "valueOn", desc := "([II)I" } : Jvm.MethodName)).before a s = true := h _ (tin3 (List.mem_of_getElem? (l := tables_1_3) (i := 231) rfl)) rfl a
set_option maxRecDepth 100000 in
theorem q724 {s : State} {a : Array Value} (h : mT s) : (Jvm.Cond.methodLink "ShareVault" (64 : Nat) ({ cls := "ShareVault$History", name := "prepare", desc := "(LShareVault$State;)V" } : Jvm.MethodName)).before a s = true := h _ (tin4 (List.mem_of_getElem? (l := tables_1_4) (i := 4) rfl)) rfl a
set_option maxRecDepth 100000 in
theorem q725 {s : State} {a : Array Value} (h : mT s) : (Jvm.Cond.instanceMethod ({ cls := "ShareVault$History", name := "prepare", desc := "(LShareVault$State;)V" } : Jvm.MethodName)).before a s = true := h _ (tin4 (List.mem_of_getElem? (l := tables_1_4) (i := 5) rfl)) rfl a
set_option maxRecDepth 100000 in
theorem q726 {s : State} {a : Array Value} (h : mT s) : (Jvm.Cond.selects "ShareVault$History" ({ cls := "ShareVault$History", name := "prepare", desc := "(LShareVault$State;)V" } : Jvm.MethodName) ({ cls := "ShareVault$History", name := "prepare", desc := "(LShareVault$State;)V" } : Jvm.MethodName)).before a s = true := h _ (tin4 (List.mem_of_getElem? (l := tables_1_4) (i := 6) rfl)) rfl a
set_option maxRecDepth 100000 in
theorem q728 {s : State} {a : Array Value} (h : mT s) : (Jvm.Cond.methodLink "ShareVault$History" (22 : Nat) ({ cls := "ShareVault$State", name := "copyFrom", desc := "(LShareVault$State;)V" } : Jvm.MethodName)).before a s = true := h _ (tin4 (List.mem_of_getElem? (l := tables_1_4) (i := 8) rfl)) rfl a
set_option maxRecDepth 100000 in
theorem q729 {s : State} {a : Array Value} (h : mT s) : (Jvm.Cond.instanceMethod ({ cls := "ShareVault$State", name := "copyFrom", desc := "(LShareVault$State;)V" } : Jvm.MethodName)).before a s = true := h _ (tin4 (List.mem_of_getElem? (l := tables_1_4) (i := 9) rfl)) rfl a
set_option maxRecDepth 100000 in
theorem q730 {s : State} {a : Array Value} (h : mT s) : (Jvm.Cond.selects "ShareVault$State" ({ cls := "ShareVault$State", name := "copyFrom", desc := "(LShareVault$State;)V" } : Jvm.MethodName) ({ cls := "ShareVault$State", name := "copyFrom", desc := "(LShareVault$State;)V" } : Jvm.MethodName)).before a s = true := h _ (tin4 (List.mem_of_getElem? (l := tables_1_4) (i := 10) rfl)) rfl a
set_option maxRecDepth 100000 in
theorem q732 {s : State} {a : Array Value} (h : mT s) : (Jvm.Cond.methodLink "ShareVault$State" (39 : Nat) ({ cls := "ShareVault$Keys", name := "copyFrom", desc := "(LShareVault$Keys;)V" } : Jvm.MethodName)).before a s = true := h _ (tin4 (List.mem_of_getElem? (l := tables_1_4) (i := 12) rfl)) rfl a
set_option maxRecDepth 100000 in
theorem q733 {s : State} {a : Array Value} (h : mT s) : (Jvm.Cond.instanceMethod ({ cls := "ShareVault$Keys", name := "copyFrom", desc := "(LShareVault$Keys;)V" } : Jvm.MethodName)).before a s = true := h _ (tin4 (List.mem_of_getElem? (l := tables_1_4) (i := 13) rfl)) rfl a
set_option maxRecDepth 100000 in
theorem q734 {s : State} {a : Array Value} (h : mT s) : (Jvm.Cond.selects "ShareVault$Keys" ({ cls := "ShareVault$Keys", name := "copyFrom", desc := "(LShareVault$Keys;)V" } : Jvm.MethodName) ({ cls := "ShareVault$Keys", name := "copyFrom", desc := "(LShareVault$Keys;)V" } : Jvm.MethodName)).before a s = true := h _ (tin4 (List.mem_of_getElem? (l := tables_1_4) (i := 14) rfl)) rfl a
set_option maxRecDepth 100000 in
theorem q736 {s : State} {a : Array Value} (h : mT s) : (Jvm.Cond.methodLink "ShareVault$Keys" (25 : Nat) ({ cls := "java/lang/System", name := "arraycopy", desc := "(Ljava/lang/Object;ILjava/lang/Object;II)V" } : Jvm.MethodName)).before a s = true := h _ (tin4 (List.mem_of_getElem? (l := tables_1_4) (i := 16) rfl)) rfl a
set_option maxRecDepth 100000 in
theorem q737 {s : State} {a : Array Value} (h : mT s) : (Jvm.Cond.methodLink "ShareVault$State" (43 : Nat) ({ cls := "ShareVault$Door", name := "copyFrom", desc := "(LShareVault$Door;)V" } : Jvm.MethodName)).before a s = true := h _ (tin4 (List.mem_of_getElem? (l := tables_1_4) (i := 17) rfl)) rfl a
set_option maxRecDepth 100000 in
theorem q738 {s : State} {a : Array Value} (h : mT s) : (Jvm.Cond.instanceMethod ({ cls := "ShareVault$Door", name := "copyFrom", desc := "(LShareVault$Door;)V" } : Jvm.MethodName)).before a s = true := h _ (tin4 (List.mem_of_getElem? (l := tables_1_4) (i := 18) rfl)) rfl a
set_option maxRecDepth 100000 in
theorem q739 {s : State} {a : Array Value} (h : mT s) : (Jvm.Cond.selects "ShareVault$Door" ({ cls := "ShareVault$Door", name := "copyFrom", desc := "(LShareVault$Door;)V" } : Jvm.MethodName) ({ cls := "ShareVault$Door", name := "copyFrom", desc := "(LShareVault$Door;)V" } : Jvm.MethodName)).before a s = true := h _ (tin4 (List.mem_of_getElem? (l := tables_1_4) (i := 19) rfl)) rfl a
set_option maxRecDepth 100000 in
theorem q741 {s : State} {a : Array Value} (h : mT s) : (Jvm.Cond.methodLink "ShareVault$State" (46 : Nat) ({ cls := "ShareVault$Building", name := "copyFrom", desc := "(LShareVault$Building;)V" } : Jvm.MethodName)).before a s = true := h _ (tin4 (List.mem_of_getElem? (l := tables_1_4) (i := 21) rfl)) rfl a
set_option maxRecDepth 100000 in
theorem q742 {s : State} {a : Array Value} (h : mT s) : (Jvm.Cond.methodLink "ShareVault$State" (49 : Nat) ({ cls := "ShareVault$Journal", name := "copyFrom", desc := "(LShareVault$Journal;)V" } : Jvm.MethodName)).before a s = true := h _ (tin4 (List.mem_of_getElem? (l := tables_1_4) (i := 22) rfl)) rfl a
set_option maxRecDepth 100000 in
theorem q743 {s : State} {a : Array Value} (h : mT s) : (Jvm.Cond.instanceMethod ({ cls := "ShareVault$Journal", name := "copyFrom", desc := "(LShareVault$Journal;)V" } : Jvm.MethodName)).before a s = true := h _ (tin4 (List.mem_of_getElem? (l := tables_1_4) (i := 23) rfl)) rfl a
set_option maxRecDepth 100000 in
theorem q744 {s : State} {a : Array Value} (h : mT s) : (Jvm.Cond.selects "ShareVault$Journal" ({ cls := "ShareVault$Journal", name := "copyFrom", desc := "(LShareVault$Journal;)V" } : Jvm.MethodName) ({ cls := "ShareVault$Journal", name := "copyFrom", desc := "(LShareVault$Journal;)V" } : Jvm.MethodName)).before a s = true := h _ (tin4 (List.mem_of_getElem? (l := tables_1_4) (i := 24) rfl)) rfl a
set_option maxRecDepth 100000 in
theorem q746 {s : State} {a : Array Value} (h : mT s) : (Jvm.Cond.methodLink "ShareVault$Journal" (26 : Nat) ({ cls := "java/lang/System", name := "arraycopy", desc := "(Ljava/lang/Object;ILjava/lang/Object;II)V" } : Jvm.MethodName)).before a s = true := h _ (tin4 (List.mem_of_getElem? (l := tables_1_4) (i := 26) rfl)) rfl a
set_option maxRecDepth 100000 in
theorem q747 {s : State} {a : Array Value} (h : mT s) : (Jvm.Cond.methodLink "ShareVault" (68 : Nat) ({ cls := "ShareVault$State", name := "tryHolder", desc := "()I" } : Jvm.MethodName)).before a s = true := h _ (tin4 (List.mem_of_getElem? (l := tables_1_4) (i := 27) rfl)) rfl a
set_option maxRecDepth 100000 in
theorem q748 {s : State} {a : Array Value} (h : mT s) : (Jvm.Cond.instanceMethod ({ cls := "ShareVault$State", name := "tryHolder", desc := "()I" } : Jvm.MethodName)).before a s = true := h _ (tin4 (List.mem_of_getElem? (l := tables_1_4) (i := 28) rfl)) rfl a
set_option maxRecDepth 100000 in
theorem q749 {s : State} {a : Array Value} (h : mT s) : (Jvm.Cond.selects "ShareVault$State" ({ cls := "ShareVault$State", name := "tryHolder", desc := "()I" } : Jvm.MethodName) ({ cls := "ShareVault$State", name := "tryHolder", desc := "()I" } : Jvm.MethodName)).before a s = true := h _ (tin4 (List.mem_of_getElem? (l := tables_1_4) (i := 29) rfl)) rfl a
set_option maxRecDepth 100000 in
theorem q751 {s : State} {a : Array Value} (h : mT s) : (Jvm.Cond.methodLink "ShareVault$State" (75 : Nat) ({ cls := "ShareVault$Keys", name := "join", desc := "()I" } : Jvm.MethodName)).before a s = true := h _ (tin4 (List.mem_of_getElem? (l := tables_1_4) (i := 31) rfl)) rfl a
set_option maxRecDepth 100000 in
theorem q752 {s : State} {a : Array Value} (h : mT s) : (Jvm.Cond.instanceMethod ({ cls := "ShareVault$Keys", name := "join", desc := "()I" } : Jvm.MethodName)).before a s = true := h _ (tin4 (List.mem_of_getElem? (l := tables_1_4) (i := 32) rfl)) rfl a
set_option maxRecDepth 100000 in
theorem q753 {s : State} {a : Array Value} (h : mT s) : (Jvm.Cond.selects "ShareVault$Keys" ({ cls := "ShareVault$Keys", name := "join", desc := "()I" } : Jvm.MethodName) ({ cls := "ShareVault$Keys", name := "join", desc := "()I" } : Jvm.MethodName)).before a s = true := h _ (tin4 (List.mem_of_getElem? (l := tables_1_4) (i := 33) rfl)) rfl a
set_option maxRecDepth 100000 in
theorem q755 {s : State} {a : Array Value} (h : mT s) : (Jvm.Cond.methodLink "ShareVault$Keys" (49 : Nat) ({ cls := "ShareVault$Keys", name := "correctShare", desc := "(I)I" } : Jvm.MethodName)).before a s = true := h _ (tin4 (List.mem_of_getElem? (l := tables_1_4) (i := 35) rfl)) rfl a
set_option maxRecDepth 100000 in
theorem q756 {s : State} {a : Array Value} (h : mT s) : (Jvm.Cond.methodLink "ShareVault" (72 : Nat) ({ cls := "ShareVault", name := "settle", desc := "(II)I" } : Jvm.MethodName)).before a s = true := h _ (tin4 (List.mem_of_getElem? (l := tables_1_4) (i := 36) rfl)) rfl a
set_option maxRecDepth 100000 in
theorem q758 {s : State} {a : Array Value} (h : mT s) : (Jvm.Cond.instanceMethod ({ cls := "ShareVault", name := "settle", desc := "(II)I" } : Jvm.MethodName)).before a s = true := h _ (tin4 (List.mem_of_getElem? (l := tables_1_4) (i := 38) rfl)) rfl a
set_option maxRecDepth 100000 in
theorem q762 {s : State} {a : Array Value} (h : mT s) : (Jvm.Cond.methodLink "ShareVault" (398 : Nat) ({ cls := "ShareVault$State", name := "detailOf", desc := "(II)I" } : Jvm.MethodName)).before a s = true := h _ (tin4 (List.mem_of_getElem? (l := tables_1_4) (i := 42) rfl)) rfl a
set_option maxRecDepth 100000 in
theorem q763 {s : State} {a : Array Value} (h : mT s) : (Jvm.Cond.instanceMethod ({ cls := "ShareVault$State", name := "detailOf", desc := "(II)I" } : Jvm.MethodName)).before a s = true := h _ (tin4 (List.mem_of_getElem? (l := tables_1_4) (i := 43) rfl)) rfl a
set_option maxRecDepth 100000 in
theorem q764 {s : State} {a : Array Value} (h : mT s) : (Jvm.Cond.selects "ShareVault$State" ({ cls := "ShareVault$State", name := "detailOf", desc := "(II)I" } : Jvm.MethodName) ({ cls := "ShareVault$State", name := "detailOf", desc := "(II)I" } : Jvm.MethodName)).before a s = true := h _ (tin4 (List.mem_of_getElem? (l := tables_1_4) (i := 44) rfl)) rfl a
set_option maxRecDepth 100000 in
theorem q766 {s : State} {a : Array Value} (h : mT s) : (Jvm.Cond.methodLink "ShareVault$State" (56 : Nat) ({ cls := "ShareVault$Keys", name := "placeOf", desc := "(I)I" } : Jvm.MethodName)).before a s = true := h _ (tin4 (List.mem_of_getElem? (l := tables_1_4) (i := 46) rfl)) rfl a
set_option maxRecDepth 100000 in
theorem q767 {s : State} {a : Array Value} (h : mT s) : (Jvm.Cond.methodLink "ShareVault" (345 : Nat) ({ cls := "ShareVault", name := "keepRefusal", desc := "(III)V" } : Jvm.MethodName)).before a s = true := h _ (tin4 (List.mem_of_getElem? (l := tables_1_4) (i := 47) rfl)) rfl a
set_option maxRecDepth 100000 in
theorem q769 {s : State} {a : Array Value} (h : mT s) : (Jvm.Cond.instanceMethod ({ cls := "ShareVault", name := "keepRefusal", desc := "(III)V" } : Jvm.MethodName)).before a s = true := h _ (tin4 (List.mem_of_getElem? (l := tables_1_4) (i := 49) rfl)) rfl a
set_option maxRecDepth 100000 in
theorem q771 {s : State} {a : Array Value} (h : mT s) : (Jvm.Cond.classLink "ShareVault" (349 : Nat) "java/lang/UnsupportedOperationException").before a s = true := h _ (tin4 (List.mem_of_getElem? (l := tables_1_4) (i := 51) rfl)) rfl a
set_option maxRecDepth 100000 in
theorem q787 {s : State} {a : Array Value} (h : mT s) : (Jvm.Cond.methodLink "ShareVault" (354 : Nat) ({ cls := "ShareVault$History", name := "keep", desc := "()V" } : Jvm.MethodName)).before a s = true := h _ (tin4 (List.mem_of_getElem? (l := tables_1_4) (i := 67) rfl)) rfl a
set_option maxRecDepth 100000 in
theorem q788 {s : State} {a : Array Value} (h : mT s) : (Jvm.Cond.instanceMethod ({ cls := "ShareVault$History", name := "keep", desc := "()V" } : Jvm.MethodName)).before a s = true := h _ (tin4 (List.mem_of_getElem? (l := tables_1_4) (i := 68) rfl)) rfl a
set_option maxRecDepth 100000 in
theorem q789 {s : State} {a : Array Value} (h : mT s) : (Jvm.Cond.selects "ShareVault$History" ({ cls := "ShareVault$History", name := "keep", desc := "()V" } : Jvm.MethodName) ({ cls := "ShareVault$History", name := "keep", desc := "()V" } : Jvm.MethodName)).before a s = true := h _ (tin4 (List.mem_of_getElem? (l := tables_1_4) (i := 69) rfl)) rfl a
set_option maxRecDepth 100000 in
theorem q791 {s : State} {a : Array Value} (h : mT s) : (Jvm.Cond.methodLink "ShareVault$History" (29 : Nat) ({ cls := "java/lang/Math", name := "min", desc := "(II)I" } : Jvm.MethodName)).before a s = true := h _ (tin4 (List.mem_of_getElem? (l := tables_1_4) (i := 71) rfl)) rfl a
set_option maxRecDepth 100000 in
theorem q792 {s : State} {a : Array Value} (h : mT s) : (Jvm.Cond.static ({ cls := "java/lang/Math", name := "min", desc := "(II)I" } : Jvm.MethodName)).before a s = true := h _ (tin4 (List.mem_of_getElem? (l := tables_1_4) (i := 72) rfl)) rfl a
set_option maxRecDepth 100000 in
theorem q793 {s : State} {a : Array Value} (h : mT s) : (Jvm.Cond.code ({ cls := "java/lang/Math", name := "min", desc := "(II)I" } : Jvm.MethodName) prog_29_method_69_code (2 : Nat) (Option.some Jvm.ClassFile.FieldType.int)).before a s = true := h _ (tin4 (List.mem_of_getElem? (l := tables_1_4) (i := 73) rfl)) rfl a
set_option maxRecDepth 100000 in
theorem q801 {s : State} {a : Array Value} (h : mT s) : (Jvm.Cond.methodLink "ShareVault" (76 : Nat) ({ cls := "ShareVault$State", name := "trySeal", desc := "(IIII)I" } : Jvm.MethodName)).before a s = true := h _ (tin4 (List.mem_of_getElem? (l := tables_1_4) (i := 81) rfl)) rfl a
set_option maxRecDepth 100000 in
theorem q802 {s : State} {a : Array Value} (h : mT s) : (Jvm.Cond.instanceMethod ({ cls := "ShareVault$State", name := "trySeal", desc := "(IIII)I" } : Jvm.MethodName)).before a s = true := h _ (tin4 (List.mem_of_getElem? (l := tables_1_4) (i := 82) rfl)) rfl a
set_option maxRecDepth 100000 in
theorem q803 {s : State} {a : Array Value} (h : mT s) : (Jvm.Cond.selects "ShareVault$State" ({ cls := "ShareVault$State", name := "trySeal", desc := "(IIII)I" } : Jvm.MethodName) ({ cls := "ShareVault$State", name := "trySeal", desc := "(IIII)I" } : Jvm.MethodName)).before a s = true := h _ (tin4 (List.mem_of_getElem? (l := tables_1_4) (i := 83) rfl)) rfl a
set_option maxRecDepth 100000 in
theorem q805 {s : State} {a : Array Value} (h : mT s) : (Jvm.Cond.methodLink "ShareVault$State" (82 : Nat) ({ cls := "ShareVault$Keys", name := "isResidue", desc := "(I)Z" } : Jvm.MethodName)).before a s = true := h _ (tin4 (List.mem_of_getElem? (l := tables_1_4) (i := 85) rfl)) rfl a
set_option maxRecDepth 100000 in
theorem q806 {s : State} {a : Array Value} (h : mT s) : (Jvm.Cond.static ({ cls := "ShareVault$Keys", name := "isResidue", desc := "(I)Z" } : Jvm.MethodName)).before a s = true := h _ (tin4 (List.mem_of_getElem? (l := tables_1_4) (i := 86) rfl)) rfl a
set_option maxRecDepth 100000 in
theorem q808 {s : State} {a : Array Value} (h : mT s) : (Jvm.Cond.methodLink "ShareVault$State" (86 : Nat) ({ cls := "ShareVault$Keys", name := "sealWith", desc := "(IIII)V" } : Jvm.MethodName)).before a s = true := h _ (tin4 (List.mem_of_getElem? (l := tables_1_4) (i := 88) rfl)) rfl a
set_option maxRecDepth 100000 in
theorem q809 {s : State} {a : Array Value} (h : mT s) : (Jvm.Cond.instanceMethod ({ cls := "ShareVault$Keys", name := "sealWith", desc := "(IIII)V" } : Jvm.MethodName)).before a s = true := h _ (tin4 (List.mem_of_getElem? (l := tables_1_4) (i := 89) rfl)) rfl a
set_option maxRecDepth 100000 in
theorem q810 {s : State} {a : Array Value} (h : mT s) : (Jvm.Cond.selects "ShareVault$Keys" ({ cls := "ShareVault$Keys", name := "sealWith", desc := "(IIII)V" } : Jvm.MethodName) ({ cls := "ShareVault$Keys", name := "sealWith", desc := "(IIII)V" } : Jvm.MethodName)).before a s = true := h _ (tin4 (List.mem_of_getElem? (l := tables_1_4) (i := 90) rfl)) rfl a
set_option maxRecDepth 100000 in
theorem q812 {s : State} {a : Array Value} (h : mT s) : (Jvm.Cond.methodLink "ShareVault$State" (90 : Nat) ({ cls := "ShareVault$Door", name := "shutAnew", desc := "()V" } : Jvm.MethodName)).before a s = true := h _ (tin4 (List.mem_of_getElem? (l := tables_1_4) (i := 92) rfl)) rfl a
set_option maxRecDepth 100000 in
theorem q813 {s : State} {a : Array Value} (h : mT s) : (Jvm.Cond.instanceMethod ({ cls := "ShareVault$Door", name := "shutAnew", desc := "()V" } : Jvm.MethodName)).before a s = true := h _ (tin4 (List.mem_of_getElem? (l := tables_1_4) (i := 93) rfl)) rfl a
set_option maxRecDepth 100000 in
theorem q814 {s : State} {a : Array Value} (h : mT s) : (Jvm.Cond.selects "ShareVault$Door" ({ cls := "ShareVault$Door", name := "shutAnew", desc := "()V" } : Jvm.MethodName) ({ cls := "ShareVault$Door", name := "shutAnew", desc := "()V" } : Jvm.MethodName)).before a s = true := h _ (tin4 (List.mem_of_getElem? (l := tables_1_4) (i := 94) rfl)) rfl a
set_option maxRecDepth 100000 in
theorem q823 {s : State} {a : Array Value} (h : mT s) : (Jvm.Cond.methodLink "ShareVault" (80 : Nat) ({ cls := "ShareVault$State", name := "tryShare", desc := "(II)I" } : Jvm.MethodName)).before a s = true := h _ (tin4 (List.mem_of_getElem? (l := tables_1_4) (i := 103) rfl)) rfl a
set_option maxRecDepth 100000 in
theorem q824 {s : State} {a : Array Value} (h : mT s) : (Jvm.Cond.instanceMethod ({ cls := "ShareVault$State", name := "tryShare", desc := "(II)I" } : Jvm.MethodName)).before a s = true := h _ (tin4 (List.mem_of_getElem? (l := tables_1_4) (i := 104) rfl)) rfl a
set_option maxRecDepth 100000 in
theorem q825 {s : State} {a : Array Value} (h : mT s) : (Jvm.Cond.selects "ShareVault$State" ({ cls := "ShareVault$State", name := "tryShare", desc := "(II)I" } : Jvm.MethodName) ({ cls := "ShareVault$State", name := "tryShare", desc := "(II)I" } : Jvm.MethodName)).before a s = true := h _ (tin4 (List.mem_of_getElem? (l := tables_1_4) (i := 105) rfl)) rfl a
set_option maxRecDepth 100000 in
theorem q827 {s : State} {a : Array Value} (h : mT s) : (Jvm.Cond.methodLink "ShareVault$State" (93 : Nat) ({ cls := "ShareVault$Keys", name := "hasHolder", desc := "(I)Z" } : Jvm.MethodName)).before a s = true := h _ (tin4 (List.mem_of_getElem? (l := tables_1_4) (i := 107) rfl)) rfl a
set_option maxRecDepth 100000 in
theorem q835 {s : State} {a : Array Value} (h : mT s) : (Jvm.Cond.methodLink "ShareVault" (83 : Nat) ({ cls := "ShareVault$State", name := "tryPresent", desc := "(I)I" } : Jvm.MethodName)).before a s = true := h _ (tin4 (List.mem_of_getElem? (l := tables_1_4) (i := 115) rfl)) rfl a
set_option maxRecDepth 100000 in
theorem q836 {s : State} {a : Array Value} (h : mT s) : (Jvm.Cond.instanceMethod ({ cls := "ShareVault$State", name := "tryPresent", desc := "(I)I" } : Jvm.MethodName)).before a s = true := h _ (tin4 (List.mem_of_getElem? (l := tables_1_4) (i := 116) rfl)) rfl a
set_option maxRecDepth 100000 in
theorem q837 {s : State} {a : Array Value} (h : mT s) : (Jvm.Cond.selects "ShareVault$State" ({ cls := "ShareVault$State", name := "tryPresent", desc := "(I)I" } : Jvm.MethodName) ({ cls := "ShareVault$State", name := "tryPresent", desc := "(I)I" } : Jvm.MethodName)).before a s = true := h _ (tin4 (List.mem_of_getElem? (l := tables_1_4) (i := 117) rfl)) rfl a
set_option maxRecDepth 100000 in
theorem q839 {s : State} {a : Array Value} (h : mT s) : (Jvm.Cond.methodLink "ShareVault$State" (104 : Nat) ({ cls := "ShareVault$Keys", name := "show", desc := "(I)I" } : Jvm.MethodName)).before a s = true := h _ (tin4 (List.mem_of_getElem? (l := tables_1_4) (i := 119) rfl)) rfl a
set_option maxRecDepth 100000 in
theorem q840 {s : State} {a : Array Value} (h : mT s) : (Jvm.Cond.instanceMethod ({ cls := "ShareVault$Keys", name := "show", desc := "(I)I" } : Jvm.MethodName)).before a s = true := h _ (tin4 (List.mem_of_getElem? (l := tables_1_4) (i := 120) rfl)) rfl a
set_option maxRecDepth 100000 in
theorem q841 {s : State} {a : Array Value} (h : mT s) : (Jvm.Cond.selects "ShareVault$Keys" ({ cls := "ShareVault$Keys", name := "show", desc := "(I)I" } : Jvm.MethodName) ({ cls := "ShareVault$Keys", name := "show", desc := "(I)I" } : Jvm.MethodName)).before a s = true := h _ (tin4 (List.mem_of_getElem? (l := tables_1_4) (i := 121) rfl)) rfl a
set_option maxRecDepth 100000 in
theorem q850 {s : State} {a : Array Value} (h : mT s) : (Jvm.Cond.methodLink "ShareVault" (87 : Nat) ({ cls := "ShareVault$State", name := "tryTakeBack", desc := "(I)I" } : Jvm.MethodName)).before a s = true := h _ (tin4 (List.mem_of_getElem? (l := tables_1_4) (i := 130) rfl)) rfl a
set_option maxRecDepth 100000 in
theorem q851 {s : State} {a : Array Value} (h : mT s) : (Jvm.Cond.instanceMethod ({ cls := "ShareVault$State", name := "tryTakeBack", desc := "(I)I" } : Jvm.MethodName)).before a s = true := h _ (tin4 (List.mem_of_getElem? (l := tables_1_4) (i := 131) rfl)) rfl a
set_option maxRecDepth 100000 in
theorem q852 {s : State} {a : Array Value} (h : mT s) : (Jvm.Cond.selects "ShareVault$State" ({ cls := "ShareVault$State", name := "tryTakeBack", desc := "(I)I" } : Jvm.MethodName) ({ cls := "ShareVault$State", name := "tryTakeBack", desc := "(I)I" } : Jvm.MethodName)).before a s = true := h _ (tin4 (List.mem_of_getElem? (l := tables_1_4) (i := 132) rfl)) rfl a
set_option maxRecDepth 100000 in
theorem q854 {s : State} {a : Array Value} (h : mT s) : (Jvm.Cond.methodLink "ShareVault$State" (107 : Nat) ({ cls := "ShareVault$Keys", name := "hide", desc := "(I)I" } : Jvm.MethodName)).before a s = true := h _ (tin4 (List.mem_of_getElem? (l := tables_1_4) (i := 134) rfl)) rfl a
set_option maxRecDepth 100000 in
theorem q855 {s : State} {a : Array Value} (h : mT s) : (Jvm.Cond.instanceMethod ({ cls := "ShareVault$Keys", name := "hide", desc := "(I)I" } : Jvm.MethodName)).before a s = true := h _ (tin4 (List.mem_of_getElem? (l := tables_1_4) (i := 135) rfl)) rfl a
set_option maxRecDepth 100000 in
theorem q856 {s : State} {a : Array Value} (h : mT s) : (Jvm.Cond.selects "ShareVault$Keys" ({ cls := "ShareVault$Keys", name := "hide", desc := "(I)I" } : Jvm.MethodName) ({ cls := "ShareVault$Keys", name := "hide", desc := "(I)I" } : Jvm.MethodName)).before a s = true := h _ (tin4 (List.mem_of_getElem? (l := tables_1_4) (i := 136) rfl)) rfl a
set_option maxRecDepth 100000 in
theorem q865 {s : State} {a : Array Value} (h : mT s) : (Jvm.Cond.methodLink "ShareVault" (90 : Nat) ({ cls := "ShareVault$State", name := "tryOpen", desc := "()I" } : Jvm.MethodName)).before a s = true := h _ (tin4 (List.mem_of_getElem? (l := tables_1_4) (i := 145) rfl)) rfl a
set_option maxRecDepth 100000 in
theorem q866 {s : State} {a : Array Value} (h : mT s) : (Jvm.Cond.instanceMethod ({ cls := "ShareVault$State", name := "tryOpen", desc := "()I" } : Jvm.MethodName)).before a s = true := h _ (tin4 (List.mem_of_getElem? (l := tables_1_4) (i := 146) rfl)) rfl a
set_option maxRecDepth 100000 in
theorem q867 {s : State} {a : Array Value} (h : mT s) : (Jvm.Cond.selects "ShareVault$State" ({ cls := "ShareVault$State", name := "tryOpen", desc := "()I" } : Jvm.MethodName) ({ cls := "ShareVault$State", name := "tryOpen", desc := "()I" } : Jvm.MethodName)).before a s = true := h _ (tin4 (List.mem_of_getElem? (l := tables_1_4) (i := 147) rfl)) rfl a
set_option maxRecDepth 100000 in
theorem q869 {s : State} {a : Array Value} (h : mT s) : (Jvm.Cond.methodLink "ShareVault$State" (110 : Nat) ({ cls := "ShareVault$State", name := "verdictOnAttempt", desc := "()I" } : Jvm.MethodName)).before a s = true := h _ (tin4 (List.mem_of_getElem? (l := tables_1_4) (i := 149) rfl)) rfl a
set_option maxRecDepth 100000 in
theorem q871 {s : State} {a : Array Value} (h : mT s) : (Jvm.Cond.instanceMethod ({ cls := "ShareVault$State", name := "verdictOnAttempt", desc := "()I" } : Jvm.MethodName)).before a s = true := h _ (tin4 (List.mem_of_getElem? (l := tables_1_4) (i := 151) rfl)) rfl a
set_option maxRecDepth 100000 in
theorem q873 {s : State} {a : Array Value} (h : mT s) : (Jvm.Cond.methodLink "ShareVault$State" (133 : Nat) ({ cls := "ShareVault$Keys", name := "areEnough", desc := "()Z" } : Jvm.MethodName)).before a s = true := h _ (tin4 (List.mem_of_getElem? (l := tables_1_4) (i := 153) rfl)) rfl a
set_option maxRecDepth 100000 in
theorem q874 {s : State} {a : Array Value} (h : mT s) : (Jvm.Cond.methodLink "ShareVault$State" (136 : Nat) ({ cls := "ShareVault$Building", name := "hasGuardIn", desc := "(I)Z" } : Jvm.MethodName)).before a s = true := h _ (tin4 (List.mem_of_getElem? (l := tables_1_4) (i := 154) rfl)) rfl a
set_option maxRecDepth 100000 in
theorem q875 {s : State} {a : Array Value} (h : mT s) : (Jvm.Cond.methodLink "ShareVault$State" (113 : Nat) ({ cls := "ShareVault$Keys", name := "tellTheSecret", desc := "()Z" } : Jvm.MethodName)).before a s = true := h _ (tin4 (List.mem_of_getElem? (l := tables_1_4) (i := 155) rfl)) rfl a
set_option maxRecDepth 100000 in
theorem q876 {s : State} {a : Array Value} (h : mT s) : (Jvm.Cond.instanceMethod ({ cls := "ShareVault$Keys", name := "tellTheSecret", desc := "()Z" } : Jvm.MethodName)).before a s = true := h _ (tin4 (List.mem_of_getElem? (l := tables_1_4) (i := 156) rfl)) rfl a
set_option maxRecDepth 100000 in
theorem q877 {s : State} {a : Array Value} (h : mT s) : (Jvm.Cond.selects "ShareVault$Keys" ({ cls := "ShareVault$Keys", name := "tellTheSecret", desc := "()Z" } : Jvm.MethodName) ({ cls := "ShareVault$Keys", name := "tellTheSecret", desc := "()Z" } : Jvm.MethodName)).before a s = true := h _ (tin4 (List.mem_of_getElem? (l := tables_1_4) (i := 157) rfl)) rfl a
set_option maxRecDepth 100000 in
theorem q879 {s : State} {a : Array Value} (h : mT s) : (Jvm.Cond.methodLink "ShareVault$Keys" (59 : Nat) ({ cls := "ShareVault$Keys", name := "toldAt", desc := "(I)I" } : Jvm.MethodName)).before a s = true := h _ (tin4 (List.mem_of_getElem? (l := tables_1_4) (i := 159) rfl)) rfl a
set_option maxRecDepth 100000 in
theorem q880 {s : State} {a : Array Value} (h : mT s) : (Jvm.Cond.methodLink "ShareVault$State" (117 : Nat) ({ cls := "ShareVault$Door", name := "swingOpen", desc := "()V" } : Jvm.MethodName)).before a s = true := h _ (tin4 (List.mem_of_getElem? (l := tables_1_4) (i := 160) rfl)) rfl a
set_option maxRecDepth 100000 in
theorem q881 {s : State} {a : Array Value} (h : mT s) : (Jvm.Cond.instanceMethod ({ cls := "ShareVault$Door", name := "swingOpen", desc := "()V" } : Jvm.MethodName)).before a s = true := h _ (tin4 (List.mem_of_getElem? (l := tables_1_4) (i := 161) rfl)) rfl a
set_option maxRecDepth 100000 in
theorem q882 {s : State} {a : Array Value} (h : mT s) : (Jvm.Cond.selects "ShareVault$Door" ({ cls := "ShareVault$Door", name := "swingOpen", desc := "()V" } : Jvm.MethodName) ({ cls := "ShareVault$Door", name := "swingOpen", desc := "()V" } : Jvm.MethodName)).before a s = true := h _ (tin4 (List.mem_of_getElem? (l := tables_1_4) (i := 162) rfl)) rfl a
set_option maxRecDepth 100000 in
theorem q884 {s : State} {a : Array Value} (h : mT s) : (Jvm.Cond.methodLink "ShareVault$State" (120 : Nat) ({ cls := "ShareVault$Door", name := "countFailure", desc := "()V" } : Jvm.MethodName)).before a s = true := h _ (tin4 (List.mem_of_getElem? (l := tables_1_4) (i := 164) rfl)) rfl a
set_option maxRecDepth 100000 in
theorem q885 {s : State} {a : Array Value} (h : mT s) : (Jvm.Cond.instanceMethod ({ cls := "ShareVault$Door", name := "countFailure", desc := "()V" } : Jvm.MethodName)).before a s = true := h _ (tin4 (List.mem_of_getElem? (l := tables_1_4) (i := 165) rfl)) rfl a
set_option maxRecDepth 100000 in
theorem q886 {s : State} {a : Array Value} (h : mT s) : (Jvm.Cond.selects "ShareVault$Door" ({ cls := "ShareVault$Door", name := "countFailure", desc := "()V" } : Jvm.MethodName) ({ cls := "ShareVault$Door", name := "countFailure", desc := "()V" } : Jvm.MethodName)).before a s = true := h _ (tin4 (List.mem_of_getElem? (l := tables_1_4) (i := 166) rfl)) rfl a
set_option maxRecDepth 100000 in
theorem q888 {s : State} {a : Array Value} (h : mT s) : (Jvm.Cond.methodLink "ShareVault$State" (126 : Nat) ({ cls := "ShareVault$Journal", name := "enter", desc := "(ICI)V" } : Jvm.MethodName)).before a s = true := h _ (tin4 (List.mem_of_getElem? (l := tables_1_4) (i := 168) rfl)) rfl a
set_option maxRecDepth 100000 in
theorem q889 {s : State} {a : Array Value} (h : mT s) : (Jvm.Cond.instanceMethod ({ cls := "ShareVault$Journal", name := "enter", desc := "(ICI)V" } : Jvm.MethodName)).before a s = true := h _ (tin4 (List.mem_of_getElem? (l := tables_1_4) (i := 169) rfl)) rfl a
set_option maxRecDepth 100000 in
theorem q890 {s : State} {a : Array Value} (h : mT s) : (Jvm.Cond.selects "ShareVault$Journal" ({ cls := "ShareVault$Journal", name := "enter", desc := "(ICI)V" } : Jvm.MethodName) ({ cls := "ShareVault$Journal", name := "enter", desc := "(ICI)V" } : Jvm.MethodName)).before a s = true := h _ (tin4 (List.mem_of_getElem? (l := tables_1_4) (i := 170) rfl)) rfl a
set_option maxRecDepth 100000 in
theorem q892 {s : State} {a : Array Value} (h : mT s) : (Jvm.Cond.methodLink "ShareVault$Journal" (32 : Nat) ({ cls := "ShareVault$Journal", name := "dropOldest", desc := "()V" } : Jvm.MethodName)).before a s = true := h _ (tin4 (List.mem_of_getElem? (l := tables_1_4) (i := 172) rfl)) rfl a
set_option maxRecDepth 100000 in
theorem q894 {s : State} {a : Array Value} (h : mT s) : (Jvm.Cond.instanceMethod ({ cls := "ShareVault$Journal", name := "dropOldest", desc := "()V" } : Jvm.MethodName)).before a s = true := h _ (tin4 (List.mem_of_getElem? (l := tables_1_4) (i := 174) rfl)) rfl a
set_option maxRecDepth 100000 in
theorem q903 {s : State} {a : Array Value} (h : mT s) : (Jvm.Cond.methodLink "ShareVault" (93 : Nat) ({ cls := "ShareVault$State", name := "tryClose", desc := "()I" } : Jvm.MethodName)).before a s = true := h _ (tin4 (List.mem_of_getElem? (l := tables_1_4) (i := 183) rfl)) rfl a
set_option maxRecDepth 100000 in
theorem q904 {s : State} {a : Array Value} (h : mT s) : (Jvm.Cond.instanceMethod ({ cls := "ShareVault$State", name := "tryClose", desc := "()I" } : Jvm.MethodName)).before a s = true := h _ (tin4 (List.mem_of_getElem? (l := tables_1_4) (i := 184) rfl)) rfl a
set_option maxRecDepth 100000 in
theorem q905 {s : State} {a : Array Value} (h : mT s) : (Jvm.Cond.selects "ShareVault$State" ({ cls := "ShareVault$State", name := "tryClose", desc := "()I" } : Jvm.MethodName) ({ cls := "ShareVault$State", name := "tryClose", desc := "()I" } : Jvm.MethodName)).before a s = true := h _ (tin4 (List.mem_of_getElem? (l := tables_1_4) (i := 185) rfl)) rfl a
set_option maxRecDepth 100000 in
theorem q914 {s : State} {a : Array Value} (h : mT s) : (Jvm.Cond.methodLink "ShareVault" (96 : Nat) ({ cls := "ShareVault$State", name := "tryGuard", desc := "(IZI)I" } : Jvm.MethodName)).before a s = true := h _ (tin4 (List.mem_of_getElem? (l := tables_1_4) (i := 194) rfl)) rfl a
set_option maxRecDepth 100000 in
theorem q915 {s : State} {a : Array Value} (h : mT s) : (Jvm.Cond.instanceMethod ({ cls := "ShareVault$State", name := "tryGuard", desc := "(IZI)I" } : Jvm.MethodName)).before a s = true := h _ (tin4 (List.mem_of_getElem? (l := tables_1_4) (i := 195) rfl)) rfl a
set_option maxRecDepth 100000 in
theorem q916 {s : State} {a : Array Value} (h : mT s) : (Jvm.Cond.selects "ShareVault$State" ({ cls := "ShareVault$State", name := "tryGuard", desc := "(IZI)I" } : Jvm.MethodName) ({ cls := "ShareVault$State", name := "tryGuard", desc := "(IZI)I" } : Jvm.MethodName)).before a s = true := h _ (tin4 (List.mem_of_getElem? (l := tables_1_4) (i := 196) rfl)) rfl a
set_option maxRecDepth 100000 in
theorem q918 {s : State} {a : Array Value} (h : mT s) : (Jvm.Cond.methodLink "ShareVault$State" (139 : Nat) ({ cls := "ShareVault$Building", name := "hasZone", desc := "(I)Z" } : Jvm.MethodName)).before a s = true := h _ (tin4 (List.mem_of_getElem? (l := tables_1_4) (i := 198) rfl)) rfl a
set_option maxRecDepth 100000 in
theorem q919 {s : State} {a : Array Value} (h : mT s) : (Jvm.Cond.methodLink "ShareVault$State" (142 : Nat) ({ cls := "ShareVault$Building", name := "placeGuard", desc := "(IZI)I" } : Jvm.MethodName)).before a s = true := h _ (tin4 (List.mem_of_getElem? (l := tables_1_4) (i := 199) rfl)) rfl a
set_option maxRecDepth 100000 in
theorem q920 {s : State} {a : Array Value} (h : mT s) : (Jvm.Cond.instanceMethod ({ cls := "ShareVault$Building", name := "placeGuard", desc := "(IZI)I" } : Jvm.MethodName)).before a s = true := h _ (tin4 (List.mem_of_getElem? (l := tables_1_4) (i := 200) rfl)) rfl a
set_option maxRecDepth 100000 in
theorem q921 {s : State} {a : Array Value} (h : mT s) : (Jvm.Cond.selects "ShareVault$Building" ({ cls := "ShareVault$Building", name := "placeGuard", desc := "(IZI)I" } : Jvm.MethodName) ({ cls := "ShareVault$Building", name := "placeGuard", desc := "(IZI)I" } : Jvm.MethodName)).before a s = true := h _ (tin4 (List.mem_of_getElem? (l := tables_1_4) (i := 201) rfl)) rfl a
set_option maxRecDepth 100000 in
theorem q930 {s : State} {a : Array Value} (h : mT s) : (Jvm.Cond.methodLink "ShareVault" (100 : Nat) ({ cls := "ShareVault$State", name := "tryTurn", desc := "(I)I" } : Jvm.MethodName)).before a s = true := h _ (tin4 (List.mem_of_getElem? (l := tables_1_4) (i := 210) rfl)) rfl a
set_option maxRecDepth 100000 in
theorem q931 {s : State} {a : Array Value} (h : mT s) : (Jvm.Cond.instanceMethod ({ cls := "ShareVault$State", name := "tryTurn", desc := "(I)I" } : Jvm.MethodName)).before a s = true := h _ (tin4 (List.mem_of_getElem? (l := tables_1_4) (i := 211) rfl)) rfl a
set_option maxRecDepth 100000 in
theorem q932 {s : State} {a : Array Value} (h : mT s) : (Jvm.Cond.selects "ShareVault$State" ({ cls := "ShareVault$State", name := "tryTurn", desc := "(I)I" } : Jvm.MethodName) ({ cls := "ShareVault$State", name := "tryTurn", desc := "(I)I" } : Jvm.MethodName)).before a s = true := h _ (tin4 (List.mem_of_getElem? (l := tables_1_4) (i := 212) rfl)) rfl a
set_option maxRecDepth 100000 in
theorem q934 {s : State} {a : Array Value} (h : mT s) : (Jvm.Cond.methodLink "ShareVault$State" (146 : Nat) ({ cls := "ShareVault$Building", name := "hasGuard", desc := "(I)Z" } : Jvm.MethodName)).before a s = true := h _ (tin4 (List.mem_of_getElem? (l := tables_1_4) (i := 214) rfl)) rfl a
set_option maxRecDepth 100000 in
theorem q942 {s : State} {a : Array Value} (h : mT s) : (Jvm.Cond.methodLink "ShareVault" (103 : Nat) ({ cls := "ShareVault$State", name := "tryHum", desc := "(II)I" } : Jvm.MethodName)).before a s = true := h _ (tin4 (List.mem_of_getElem? (l := tables_1_4) (i := 222) rfl)) rfl a
set_option maxRecDepth 100000 in
theorem q943 {s : State} {a : Array Value} (h : mT s) : (Jvm.Cond.instanceMethod ({ cls := "ShareVault$State", name := "tryHum", desc := "(II)I" } : Jvm.MethodName)).before a s = true := h _ (tin4 (List.mem_of_getElem? (l := tables_1_4) (i := 223) rfl)) rfl a
set_option maxRecDepth 100000 in
theorem q944 {s : State} {a : Array Value} (h : mT s) : (Jvm.Cond.selects "ShareVault$State" ({ cls := "ShareVault$State", name := "tryHum", desc := "(II)I" } : Jvm.MethodName) ({ cls := "ShareVault$State", name := "tryHum", desc := "(II)I" } : Jvm.MethodName)).before a s = true := h _ (tin4 (List.mem_of_getElem? (l := tables_1_4) (i := 224) rfl)) rfl a
set_option maxRecDepth 100000 in
theorem q946 {s : State} {a : Array Value} (h : mT s) : (Jvm.Cond.methodLink "ShareVault$State" (156 : Nat) ({ cls := "java/lang/Math", name := "min", desc := "(II)I" } : Jvm.MethodName)).before a s = true := h _ (tin4 (List.mem_of_getElem? (l := tables_1_4) (i := 226) rfl)) rfl a
set_option maxRecDepth 100000 in
theorem q954 {s : State} {a : Array Value} (h : mT s) : (Jvm.Cond.methodLink "ShareVault" (106 : Nat) ({ cls := "ShareVault$State", name := "tryHours", desc := "(I)I" } : Jvm.MethodName)).before a s = true := h _ (tin4 (List.mem_of_getElem? (l := tables_1_4) (i := 234) rfl)) rfl a
set_option maxRecDepth 100000 in
theorem q955 {s : State} {a : Array Value} (h : mT s) : (Jvm.Cond.instanceMethod ({ cls := "ShareVault$State", name := "tryHours", desc := "(I)I" } : Jvm.MethodName)).before a s = true := h _ (tin4 (List.mem_of_getElem? (l := tables_1_4) (i := 235) rfl)) rfl a
set_option maxRecDepth 100000 in
theorem q956 {s : State} {a : Array Value} (h : mT s) : (Jvm.Cond.selects "ShareVault$State" ({ cls := "ShareVault$State", name := "tryHours", desc := "(I)I" } : Jvm.MethodName) ({ cls := "ShareVault$State", name := "tryHours", desc := "(I)I" } : Jvm.MethodName)).before a s = true := h _ (tin4 (List.mem_of_getElem? (l := tables_1_4) (i := 236) rfl)) rfl a
set_option maxRecDepth 100000 in
theorem q958 {s : State} {a : Array Value} (h : mT s) : (Jvm.Cond.methodLink "ShareVault$State" (165 : Nat) ({ cls := "ShareVault$Building", name := "passOneHour", desc := "()I" } : Jvm.MethodName)).before a s = true := h _ (tin4 (List.mem_of_getElem? (l := tables_1_4) (i := 238) rfl)) rfl a
set_option maxRecDepth 100000 in
theorem q959 {s : State} {a : Array Value} (h : mT s) : (Jvm.Cond.methodLink "ShareVault$State" (168 : Nat) ({ cls := "ShareVault$State", name := "enterAlarms", desc := "(I)V" } : Jvm.MethodName)).before a s = true := h _ (tin4 (List.mem_of_getElem? (l := tables_1_4) (i := 239) rfl)) rfl a
set_option maxRecDepth 100000 in
theorem q961 {s : State} {a : Array Value} (h : mT s) : (Jvm.Cond.instanceMethod ({ cls := "ShareVault$State", name := "enterAlarms", desc := "(I)V" } : Jvm.MethodName)).before a s = true := h _ (tin5 (List.mem_of_getElem? (l := tables_1_5) (i := 1) rfl)) rfl a
set_option maxRecDepth 100000 in
theorem q963 {s : State} {a : Array Value} (h : mT s) : (Jvm.Cond.methodLink "ShareVault$State" (172 : Nat) ({ cls := "ShareVault$Door", name := "passOneHour", desc := "()V" } : Jvm.MethodName)).before a s = true := h _ (tin5 (List.mem_of_getElem? (l := tables_1_5) (i := 3) rfl)) rfl a
set_option maxRecDepth 100000 in
theorem q964 {s : State} {a : Array Value} (h : mT s) : (Jvm.Cond.instanceMethod ({ cls := "ShareVault$Door", name := "passOneHour", desc := "()V" } : Jvm.MethodName)).before a s = true := h _ (tin5 (List.mem_of_getElem? (l := tables_1_5) (i := 4) rfl)) rfl a
set_option maxRecDepth 100000 in
theorem q965 {s : State} {a : Array Value} (h : mT s) : (Jvm.Cond.selects "ShareVault$Door" ({ cls := "ShareVault$Door", name := "passOneHour", desc := "()V" } : Jvm.MethodName) ({ cls := "ShareVault$Door", name := "passOneHour", desc := "()V" } : Jvm.MethodName)).before a s = true := h _ (tin5 (List.mem_of_getElem? (l := tables_1_5) (i := 5) rfl)) rfl a
set_option maxRecDepth 100000 in
theorem q1022 {s : State} {a : Array Value} (h : mT s) : (Jvm.Cond.static ({ cls := "java/lang/Math", name := "max", desc := "(II)I" } : Jvm.MethodName)).before a s = true := h _ (tin5 (List.mem_of_getElem? (l := tables_1_5) (i := 62) rfl)) rfl a
set_option maxRecDepth 100000 in
theorem q1023 {s : State} {a : Array Value} (h : mT s) : (Jvm.Cond.code ({ cls := "java/lang/Math", name := "max", desc := "(II)I" } : Jvm.MethodName) prog_29_method_65_code (2 : Nat) (Option.some Jvm.ClassFile.FieldType.int)).before a s = true := h _ (tin5 (List.mem_of_getElem? (l := tables_1_5) (i := 63) rfl)) rfl a
set_option maxRecDepth 100000 in
theorem q1058 {s : State} {a : Array Value} (h : mT s) : (Jvm.Cond.fieldLink "java/lang/String" (1053 : Nat) "jdk/internal/util/Preconditions" "SIOOBE_FORMATTER" "Ljava/util/function/BiFunction;").before a s = true := h _ (tin5 (List.mem_of_getElem? (l := tables_1_5) (i := 98) rfl)) rfl a
set_option maxRecDepth 100000 in
theorem q1073 {s : State} {a : Array Value} (h : mT s) : (Jvm.Cond.instanceMethod ({ cls := "java/lang/String", name := "length", desc := "()I" } : Jvm.MethodName)).before a s = true := h _ (tin5 (List.mem_of_getElem? (l := tables_1_5) (i := 113) rfl)) rfl a
set_option maxRecDepth 100000 in
theorem q1074 {s : State} {a : Array Value} (h : mT s) : (Jvm.Cond.selects "java/lang/String" ({ cls := "java/lang/String", name := "length", desc := "()I" } : Jvm.MethodName) ({ cls := "java/lang/String", name := "length", desc := "()I" } : Jvm.MethodName)).before a s = true := h _ (tin5 (List.mem_of_getElem? (l := tables_1_5) (i := 114) rfl)) rfl a
set_option maxRecDepth 100000 in
theorem q1076 {s : State} {a : Array Value} (h : mT s) : (Jvm.Cond.methodLink "java/lang/String" (335 : Nat) ({ cls := "java/lang/String", name := "coder", desc := "()B" } : Jvm.MethodName)).before a s = true := h _ (tin5 (List.mem_of_getElem? (l := tables_1_5) (i := 116) rfl)) rfl a
set_option maxRecDepth 100000 in
theorem q1077 {s : State} {a : Array Value} (h : mT s) : (Jvm.Cond.instanceMethod ({ cls := "java/lang/String", name := "coder", desc := "()B" } : Jvm.MethodName)).before a s = true := h _ (tin5 (List.mem_of_getElem? (l := tables_1_5) (i := 117) rfl)) rfl a
set_option maxRecDepth 100000 in
theorem q1078 {s : State} {a : Array Value} (h : mT s) : (Jvm.Cond.selects "java/lang/String" ({ cls := "java/lang/String", name := "coder", desc := "()B" } : Jvm.MethodName) ({ cls := "java/lang/String", name := "coder", desc := "()B" } : Jvm.MethodName)).before a s = true := h _ (tin5 (List.mem_of_getElem? (l := tables_1_5) (i := 118) rfl)) rfl a
set_option maxRecDepth 100000 in
theorem q1080 {s : State} {a : Array Value} (h : mT s) : (Jvm.Cond.fieldLink "java/lang/String" (38 : Nat) "java/lang/String" "COMPACT_STRINGS" "Z").before a s = true := h _ (tin5 (List.mem_of_getElem? (l := tables_1_5) (i := 120) rfl)) rfl a
set_option maxRecDepth 100000 in
theorem q1198 {s : State} {a : Array Value} (h : mT s) : (Jvm.Cond.fieldLink "java/lang/String" (9 : Nat) "java/lang/String" "value" "[B").before a s = true := h _ (tin5 (List.mem_of_getElem? (l := tables_1_5) (i := 238) rfl)) rfl a
set_option maxRecDepth 100000 in
theorem q1199 {s : State} {a : Array Value} (h : mT s) : (Jvm.Cond.fieldLink "java/lang/String" (15 : Nat) "java/lang/String" "coder" "B").before a s = true := h _ (tin5 (List.mem_of_getElem? (l := tables_1_5) (i := 239) rfl)) rfl a
set_option maxRecDepth 100000 in
theorem q1213 {s : State} {a : Array Value} (h : mT s) : (Jvm.Cond.instanceMethod ({ cls := "java/lang/String", name := "charAt", desc := "(I)C" } : Jvm.MethodName)).before a s = true := h _ (tin6 (List.mem_of_getElem? (l := tables_1_6) (i := 13) rfl)) rfl a
set_option maxRecDepth 100000 in
theorem q1214 {s : State} {a : Array Value} (h : mT s) : (Jvm.Cond.selects "java/lang/String" ({ cls := "java/lang/String", name := "charAt", desc := "(I)C" } : Jvm.MethodName) ({ cls := "java/lang/String", name := "charAt", desc := "(I)C" } : Jvm.MethodName)).before a s = true := h _ (tin6 (List.mem_of_getElem? (l := tables_1_6) (i := 14) rfl)) rfl a
set_option maxRecDepth 100000 in
theorem q1216 {s : State} {a : Array Value} (h : mT s) : (Jvm.Cond.methodLink "java/lang/String" (492 : Nat) ({ cls := "java/lang/String", name := "isLatin1", desc := "()Z" } : Jvm.MethodName)).before a s = true := h _ (tin6 (List.mem_of_getElem? (l := tables_1_6) (i := 16) rfl)) rfl a
set_option maxRecDepth 100000 in
theorem q1217 {s : State} {a : Array Value} (h : mT s) : (Jvm.Cond.instanceMethod ({ cls := "java/lang/String", name := "isLatin1", desc := "()Z" } : Jvm.MethodName)).before a s = true := h _ (tin6 (List.mem_of_getElem? (l := tables_1_6) (i := 17) rfl)) rfl a
set_option maxRecDepth 100000 in
theorem q1218 {s : State} {a : Array Value} (h : mT s) : (Jvm.Cond.selects "java/lang/String" ({ cls := "java/lang/String", name := "isLatin1", desc := "()Z" } : Jvm.MethodName) ({ cls := "java/lang/String", name := "isLatin1", desc := "()Z" } : Jvm.MethodName)).before a s = true := h _ (tin6 (List.mem_of_getElem? (l := tables_1_6) (i := 18) rfl)) rfl a
set_option maxRecDepth 100000 in
theorem q1220 {s : State} {a : Array Value} (h : mT s) : (Jvm.Cond.methodLink "java/lang/String" (495 : Nat) ({ cls := "java/lang/StringLatin1", name := "charAt", desc := "([BI)C" } : Jvm.MethodName)).before a s = true := h _ (tin6 (List.mem_of_getElem? (l := tables_1_6) (i := 20) rfl)) rfl a
set_option maxRecDepth 100000 in
theorem q1221 {s : State} {a : Array Value} (h : mT s) : (Jvm.Cond.static ({ cls := "java/lang/StringLatin1", name := "charAt", desc := "([BI)C" } : Jvm.MethodName)).before a s = true := h _ (tin6 (List.mem_of_getElem? (l := tables_1_6) (i := 21) rfl)) rfl a
set_option maxRecDepth 100000 in
theorem q1223 {s : State} {a : Array Value} (h : mT s) : (Jvm.Cond.methodLink "java/lang/StringLatin1" (9 : Nat) ({ cls := "java/lang/String", name := "checkIndex", desc := "(II)V" } : Jvm.MethodName)).before a s = true := h _ (tin6 (List.mem_of_getElem? (l := tables_1_6) (i := 23) rfl)) rfl a
set_option maxRecDepth 100000 in
theorem q1224 {s : State} {a : Array Value} (h : mT s) : (Jvm.Cond.static ({ cls := "java/lang/String", name := "checkIndex", desc := "(II)V" } : Jvm.MethodName)).before a s = true := h _ (tin6 (List.mem_of_getElem? (l := tables_1_6) (i := 24) rfl)) rfl a
set_option maxRecDepth 100000 in
theorem q1226 {s : State} {a : Array Value} (h : mT s) : (Jvm.Cond.methodLink "java/lang/String" (1059 : Nat) ({ cls := "jdk/internal/util/Preconditions", name := "checkIndex", desc := "(IILjava/util/function/BiFunction;)I" } : Jvm.MethodName)).before a s = true := h _ (tin6 (List.mem_of_getElem? (l := tables_1_6) (i := 26) rfl)) rfl a
set_option maxRecDepth 100000 in
theorem q1227 {s : State} {a : Array Value} (h : mT s) : (Jvm.Cond.static ({ cls := "jdk/internal/util/Preconditions", name := "checkIndex", desc := "(IILjava/util/function/BiFunction;)I" } : Jvm.MethodName)).before a s = true := h _ (tin6 (List.mem_of_getElem? (l := tables_1_6) (i := 27) rfl)) rfl a
set_option maxRecDepth 100000 in
theorem q1244 {s : State} {a : Array Value} (h : mT s) : (Jvm.Cond.classLink "ShareVault" (309 : Nat) "java/lang/IllegalStateException").before a s = true := h _ (tin6 (List.mem_of_getElem? (l := tables_1_6) (i := 44) rfl)) rfl a
set_option maxRecDepth 100000 in
theorem q1260 {s : State} {a : Array Value} (h : mT s) : (Jvm.Cond.methodLink "ShareVault" (314 : Nat) ({ cls := "ShareVault$Commands", name := "append", desc := "(C)I" } : Jvm.MethodName)).before a s = true := h _ (tin6 (List.mem_of_getElem? (l := tables_1_6) (i := 60) rfl)) rfl a
set_option maxRecDepth 100000 in
theorem q1261 {s : State} {a : Array Value} (h : mT s) : (Jvm.Cond.instanceMethod ({ cls := "ShareVault$Commands", name := "append", desc := "(C)I" } : Jvm.MethodName)).before a s = true := h _ (tin6 (List.mem_of_getElem? (l := tables_1_6) (i := 61) rfl)) rfl a
set_option maxRecDepth 100000 in
theorem q1262 {s : State} {a : Array Value} (h : mT s) : (Jvm.Cond.selects "ShareVault$Commands" ({ cls := "ShareVault$Commands", name := "append", desc := "(C)I" } : Jvm.MethodName) ({ cls := "ShareVault$Commands", name := "append", desc := "(C)I" } : Jvm.MethodName)).before a s = true := h _ (tin6 (List.mem_of_getElem? (l := tables_1_6) (i := 62) rfl)) rfl a
set_option maxRecDepth 100000 in
theorem q1271 {s : State} {a : Array Value} (h : mT s) : (Jvm.Cond.methodLink "ShareVault" (318 : Nat) ({ cls := "ShareVault$Commands", name := "parse", desc := "()I" } : Jvm.MethodName)).before a s = true := h _ (tin6 (List.mem_of_getElem? (l := tables_1_6) (i := 71) rfl)) rfl a
set_option maxRecDepth 100000 in
theorem q1272 {s : State} {a : Array Value} (h : mT s) : (Jvm.Cond.instanceMethod ({ cls := "ShareVault$Commands", name := "parse", desc := "()I" } : Jvm.MethodName)).before a s = true := h _ (tin6 (List.mem_of_getElem? (l := tables_1_6) (i := 72) rfl)) rfl a
set_option maxRecDepth 100000 in
theorem q1273 {s : State} {a : Array Value} (h : mT s) : (Jvm.Cond.selects "ShareVault$Commands" ({ cls := "ShareVault$Commands", name := "parse", desc := "()I" } : Jvm.MethodName) ({ cls := "ShareVault$Commands", name := "parse", desc := "()I" } : Jvm.MethodName)).before a s = true := h _ (tin6 (List.mem_of_getElem? (l := tables_1_6) (i := 73) rfl)) rfl a
set_option maxRecDepth 100000 in
theorem q1275 {s : State} {a : Array Value} (h : mT s) : (Jvm.Cond.methodLink "ShareVault$Commands" (36 : Nat) ({ cls := "ShareVault$Commands", name := "readCommand", desc := "()Z" } : Jvm.MethodName)).before a s = true := h _ (tin6 (List.mem_of_getElem? (l := tables_1_6) (i := 75) rfl)) rfl a
set_option maxRecDepth 100000 in
theorem q1277 {s : State} {a : Array Value} (h : mT s) : (Jvm.Cond.instanceMethod ({ cls := "ShareVault$Commands", name := "readCommand", desc := "()Z" } : Jvm.MethodName)).before a s = true := h _ (tin6 (List.mem_of_getElem? (l := tables_1_6) (i := 77) rfl)) rfl a
set_option maxRecDepth 100000 in
theorem q1279 {s : State} {a : Array Value} (h : mT s) : (Jvm.Cond.methodLink "ShareVault$Commands" (44 : Nat) ({ cls := "ShareVault$Commands", name := "readWord", desc := "()LShareVault$Word;" } : Jvm.MethodName)).before a s = true := h _ (tin6 (List.mem_of_getElem? (l := tables_1_6) (i := 79) rfl)) rfl a
set_option maxRecDepth 100000 in
theorem q1281 {s : State} {a : Array Value} (h : mT s) : (Jvm.Cond.instanceMethod ({ cls := "ShareVault$Commands", name := "readWord", desc := "()LShareVault$Word;" } : Jvm.MethodName)).before a s = true := h _ (tin6 (List.mem_of_getElem? (l := tables_1_6) (i := 81) rfl)) rfl a
set_option maxRecDepth 100000 in
theorem q1283 {s : State} {a : Array Value} (h : mT s) : (Jvm.Cond.fieldLink "ShareVault$Commands" (59 : Nat) "ShareVault$Commands" "WORDS" "[LShareVault$Word;").before a s = true := h _ (tin6 (List.mem_of_getElem? (l := tables_1_6) (i := 83) rfl)) rfl a
set_option maxRecDepth 100000 in
theorem q1285 {s : State} {a : Array Value} (h : mT s) : (Jvm.Cond.methodLink "ShareVault$Commands" (65 : Nat) ({ cls := "ShareVault$Commands", name := "matchingLetters", desc := "(Ljava/lang/String;)I" } : Jvm.MethodName)).before a s = true := h _ (tin6 (List.mem_of_getElem? (l := tables_1_6) (i := 85) rfl)) rfl a
set_option maxRecDepth 100000 in
theorem q1287 {s : State} {a : Array Value} (h : mT s) : (Jvm.Cond.instanceMethod ({ cls := "ShareVault$Commands", name := "matchingLetters", desc := "(Ljava/lang/String;)I" } : Jvm.MethodName)).before a s = true := h _ (tin6 (List.mem_of_getElem? (l := tables_1_6) (i := 87) rfl)) rfl a
set_option maxRecDepth 100000 in
theorem q1289 {s : State} {a : Array Value} (h : mT s) : (Jvm.Cond.methodLink "ShareVault$Commands" (69 : Nat) ({ cls := "java/lang/String", name := "length", desc := "()I" } : Jvm.MethodName)).before a s = true := h _ (tin6 (List.mem_of_getElem? (l := tables_1_6) (i := 89) rfl)) rfl a
set_option maxRecDepth 100000 in
theorem q1290 {s : State} {a : Array Value} (h : mT s) : (Jvm.Cond.methodLink "ShareVault$Commands" (79 : Nat) ({ cls := "java/lang/String", name := "charAt", desc := "(I)C" } : Jvm.MethodName)).before a s = true := h _ (tin6 (List.mem_of_getElem? (l := tables_1_6) (i := 90) rfl)) rfl a
set_option maxRecDepth 100000 in
theorem q1291 {s : State} {a : Array Value} (h : mT s) : (Jvm.Cond.methodLink "ShareVault$Commands" (73 : Nat) ({ cls := "java/lang/Math", name := "max", desc := "(II)I" } : Jvm.MethodName)).before a s = true := h _ (tin6 (List.mem_of_getElem? (l := tables_1_6) (i := 91) rfl)) rfl a
set_option maxRecDepth 100000 in
theorem q1292 {s : State} {a : Array Value} (h : mT s) : (Jvm.Cond.methodLink "ShareVault$Commands" (55 : Nat) ({ cls := "ShareVault$Commands", name := "readForm", desc := "(Ljava/lang/String;)Z" } : Jvm.MethodName)).before a s = true := h _ (tin6 (List.mem_of_getElem? (l := tables_1_6) (i := 92) rfl)) rfl a
set_option maxRecDepth 100000 in
theorem q1294 {s : State} {a : Array Value} (h : mT s) : (Jvm.Cond.instanceMethod ({ cls := "ShareVault$Commands", name := "readForm", desc := "(Ljava/lang/String;)Z" } : Jvm.MethodName)).before a s = true := h _ (tin6 (List.mem_of_getElem? (l := tables_1_6) (i := 94) rfl)) rfl a
set_option maxRecDepth 100000 in
theorem q1296 {s : State} {a : Array Value} (h : mT s) : (Jvm.Cond.methodLink "ShareVault$Commands" (40 : Nat) ({ cls := "ShareVault$Commands", name := "peek", desc := "()I" } : Jvm.MethodName)).before a s = true := h _ (tin6 (List.mem_of_getElem? (l := tables_1_6) (i := 96) rfl)) rfl a
set_option maxRecDepth 100000 in
theorem q1298 {s : State} {a : Array Value} (h : mT s) : (Jvm.Cond.instanceMethod ({ cls := "ShareVault$Commands", name := "peek", desc := "()I" } : Jvm.MethodName)).before a s = true := h _ (tin6 (List.mem_of_getElem? (l := tables_1_6) (i := 98) rfl)) rfl a
set_option maxRecDepth 100000 in
theorem q1300 {s : State} {a : Array Value} (h : mT s) : (Jvm.Cond.methodLink "ShareVault$Commands" (83 : Nat) ({ cls := "ShareVault$Commands", name := "addNumber", desc := "(I)V" } : Jvm.MethodName)).before a s = true := h _ (tin6 (List.mem_of_getElem? (l := tables_1_6) (i := 100) rfl)) rfl a
set_option maxRecDepth 100000 in
theorem q1302 {s : State} {a : Array Value} (h : mT s) : (Jvm.Cond.instanceMethod ({ cls := "ShareVault$Commands", name := "addNumber", desc := "(I)V" } : Jvm.MethodName)).before a s = true := h _ (tin6 (List.mem_of_getElem? (l := tables_1_6) (i := 102) rfl)) rfl a
set_option maxRecDepth 100000 in
theorem q1304 {s : State} {a : Array Value} (h : mT s) : (Jvm.Cond.methodLink "ShareVault$Commands" (87 : Nat) ({ cls := "ShareVault$Commands", name := "readPart", desc := "(C)Z" } : Jvm.MethodName)).before a s = true := h _ (tin6 (List.mem_of_getElem? (l := tables_1_6) (i := 104) rfl)) rfl a
set_option maxRecDepth 100000 in
theorem q1306 {s : State} {a : Array Value} (h : mT s) : (Jvm.Cond.instanceMethod ({ cls := "ShareVault$Commands", name := "readPart", desc := "(C)Z" } : Jvm.MethodName)).before a s = true := h _ (tin6 (List.mem_of_getElem? (l := tables_1_6) (i := 106) rfl)) rfl a
set_option maxRecDepth 100000 in
theorem q1308 {s : State} {a : Array Value} (h : mT s) : (Jvm.Cond.methodLink "ShareVault$Commands" (91 : Nat) ({ cls := "ShareVault$Commands", name := "readNumber", desc := "(I)Z" } : Jvm.MethodName)).before a s = true := h _ (tin6 (List.mem_of_getElem? (l := tables_1_6) (i := 108) rfl)) rfl a
set_option maxRecDepth 100000 in
theorem q1310 {s : State} {a : Array Value} (h : mT s) : (Jvm.Cond.instanceMethod ({ cls := "ShareVault$Commands", name := "readNumber", desc := "(I)Z" } : Jvm.MethodName)).before a s = true := h _ (tin6 (List.mem_of_getElem? (l := tables_1_6) (i := 110) rfl)) rfl a
set_option maxRecDepth 100000 in
theorem q1312 {s : State} {a : Array Value} (h : mT s) : (Jvm.Cond.methodLink "ShareVault$Commands" (95 : Nat) ({ cls := "ShareVault$Commands", name := "readDirection", desc := "()Z" } : Jvm.MethodName)).before a s = true := h _ (tin6 (List.mem_of_getElem? (l := tables_1_6) (i := 112) rfl)) rfl a
set_option maxRecDepth 100000 in
theorem q1314 {s : State} {a : Array Value} (h : mT s) : (Jvm.Cond.instanceMethod ({ cls := "ShareVault$Commands", name := "readDirection", desc := "()Z" } : Jvm.MethodName)).before a s = true := h _ (tin6 (List.mem_of_getElem? (l := tables_1_6) (i := 114) rfl)) rfl a
set_option maxRecDepth 100000 in
theorem q1316 {s : State} {a : Array Value} (h : mT s) : (Jvm.Cond.methodLink "ShareVault$Commands" (98 : Nat) ({ cls := "ShareVault$Commands", name := "readBlank", desc := "()Z" } : Jvm.MethodName)).before a s = true := h _ (tin6 (List.mem_of_getElem? (l := tables_1_6) (i := 116) rfl)) rfl a
set_option maxRecDepth 100000 in
theorem q1318 {s : State} {a : Array Value} (h : mT s) : (Jvm.Cond.instanceMethod ({ cls := "ShareVault$Commands", name := "readBlank", desc := "()Z" } : Jvm.MethodName)).before a s = true := h _ (tin6 (List.mem_of_getElem? (l := tables_1_6) (i := 118) rfl)) rfl a
set_option maxRecDepth 100000 in
theorem q1320 {s : State} {a : Array Value} (h : mT s) : (Jvm.Cond.methodLink "ShareVault" (321 : Nat) ({ cls := "ShareVault$Commands", name := "clear", desc := "()V" } : Jvm.MethodName)).before a s = true := h _ (tin6 (List.mem_of_getElem? (l := tables_1_6) (i := 120) rfl)) rfl a
set_option maxRecDepth 100000 in
theorem q1321 {s : State} {a : Array Value} (h : mT s) : (Jvm.Cond.instanceMethod ({ cls := "ShareVault$Commands", name := "clear", desc := "()V" } : Jvm.MethodName)).before a s = true := h _ (tin6 (List.mem_of_getElem? (l := tables_1_6) (i := 121) rfl)) rfl a
set_option maxRecDepth 100000 in
theorem q1322 {s : State} {a : Array Value} (h : mT s) : (Jvm.Cond.selects "ShareVault$Commands" ({ cls := "ShareVault$Commands", name := "clear", desc := "()V" } : Jvm.MethodName) ({ cls := "ShareVault$Commands", name := "clear", desc := "()V" } : Jvm.MethodName)).before a s = true := h _ (tin6 (List.mem_of_getElem? (l := tables_1_6) (i := 122) rfl)) rfl a
set_option maxRecDepth 100000 in
theorem q1325 {s : State} {a : Array Value} (h : mT s) : (Jvm.Cond.methodLink "ShareVault" (335 : Nat) ({ cls := "ShareVault$State", name := "tryCommand", desc := "(LShareVault$Word;[I)I" } : Jvm.MethodName)).before a s = true := h _ (tin6 (List.mem_of_getElem? (l := tables_1_6) (i := 125) rfl)) rfl a
set_option maxRecDepth 100000 in
theorem q1326 {s : State} {a : Array Value} (h : mT s) : (Jvm.Cond.instanceMethod ({ cls := "ShareVault$State", name := "tryCommand", desc := "(LShareVault$Word;[I)I" } : Jvm.MethodName)).before a s = true := h _ (tin6 (List.mem_of_getElem? (l := tables_1_6) (i := 126) rfl)) rfl a
set_option maxRecDepth 100000 in
theorem q1327 {s : State} {a : Array Value} (h : mT s) : (Jvm.Cond.selects "ShareVault$State" ({ cls := "ShareVault$State", name := "tryCommand", desc := "(LShareVault$Word;[I)I" } : Jvm.MethodName) ({ cls := "ShareVault$State", name := "tryCommand", desc := "(LShareVault$Word;[I)I" } : Jvm.MethodName)).before a s = true := h _ (tin6 (List.mem_of_getElem? (l := tables_1_6) (i := 127) rfl)) rfl a
set_option maxRecDepth 100000 in
theorem q1329 {s : State} {a : Array Value} (h : mT s) : (Jvm.Cond.fieldLink "ShareVault$State" (174 : Nat) "ShareVault$1" "$SwitchMap$ShareVault$Word" "[I").before a s = true := h _ (tin6 (List.mem_of_getElem? (l := tables_1_6) (i := 129) rfl)) rfl a
set_option maxRecDepth 100000 in
theorem q1331 {s : State} {a : Array Value} (h : mT s) : (Jvm.Cond.methodLink "ShareVault$State" (179 : Nat) ({ cls := "ShareVault$Word", name := "ordinal", desc := "()I" } : Jvm.MethodName)).before a s = true := h _ (tin6 (List.mem_of_getElem? (l := tables_1_6) (i := 131) rfl)) rfl a
set_option maxRecDepth 100000 in
theorem q1332 {s : State} {a : Array Value} (h : mT s) : (Jvm.Cond.sameMethod "ShareVault$Word" "java/lang/Enum" "ordinal" "()I").before a s = true := h _ (tin6 (List.mem_of_getElem? (l := tables_1_6) (i := 132) rfl)) rfl a
set_option maxRecDepth 100000 in
theorem q1334 {s : State} {a : Array Value} (h : mT s) : (Jvm.Cond.selects "ShareVault$Word" ({ cls := "ShareVault$Word", name := "ordinal", desc := "()I" } : Jvm.MethodName) ({ cls := "java/lang/Enum", name := "ordinal", desc := "()I" } : Jvm.MethodName)).before a s = true := h _ (tin6 (List.mem_of_getElem? (l := tables_1_6) (i := 134) rfl)) rfl a
set_option maxRecDepth 100000 in
theorem q1335 {s : State} {a : Array Value} (h : mT s) : (Jvm.Cond.instanceMethod ({ cls := "java/lang/Enum", name := "ordinal", desc := "()I" } : Jvm.MethodName)).before a s = true := h _ (tin6 (List.mem_of_getElem? (l := tables_1_6) (i := 135) rfl)) rfl a
set_option maxRecDepth 100000 in
theorem q1337 {s : State} {a : Array Value} (h : mT s) : (Jvm.Cond.methodLink "ShareVault$State" (184 : Nat) ({ cls := "ShareVault$State", name := "tryHolder", desc := "()I" } : Jvm.MethodName)).before a s = true := h _ (tin6 (List.mem_of_getElem? (l := tables_1_6) (i := 137) rfl)) rfl a
set_option maxRecDepth 100000 in
theorem q1338 {s : State} {a : Array Value} (h : mT s) : (Jvm.Cond.methodLink "ShareVault$State" (187 : Nat) ({ cls := "ShareVault$State", name := "trySeal", desc := "(IIII)I" } : Jvm.MethodName)).before a s = true := h _ (tin6 (List.mem_of_getElem? (l := tables_1_6) (i := 138) rfl)) rfl a
set_option maxRecDepth 100000 in
theorem q1339 {s : State} {a : Array Value} (h : mT s) : (Jvm.Cond.methodLink "ShareVault$State" (191 : Nat) ({ cls := "ShareVault$State", name := "tryShare", desc := "(II)I" } : Jvm.MethodName)).before a s = true := h _ (tin6 (List.mem_of_getElem? (l := tables_1_6) (i := 139) rfl)) rfl a
set_option maxRecDepth 100000 in
theorem q1340 {s : State} {a : Array Value} (h : mT s) : (Jvm.Cond.methodLink "ShareVault$State" (194 : Nat) ({ cls := "ShareVault$State", name := "tryPresent", desc := "(I)I" } : Jvm.MethodName)).before a s = true := h _ (tin6 (List.mem_of_getElem? (l := tables_1_6) (i := 140) rfl)) rfl a
set_option maxRecDepth 100000 in
theorem q1341 {s : State} {a : Array Value} (h : mT s) : (Jvm.Cond.methodLink "ShareVault$State" (197 : Nat) ({ cls := "ShareVault$State", name := "tryTakeBack", desc := "(I)I" } : Jvm.MethodName)).before a s = true := h _ (tin6 (List.mem_of_getElem? (l := tables_1_6) (i := 141) rfl)) rfl a
set_option maxRecDepth 100000 in
theorem q1342 {s : State} {a : Array Value} (h : mT s) : (Jvm.Cond.methodLink "ShareVault$State" (200 : Nat) ({ cls := "ShareVault$State", name := "tryOpen", desc := "()I" } : Jvm.MethodName)).before a s = true := h _ (tin6 (List.mem_of_getElem? (l := tables_1_6) (i := 142) rfl)) rfl a
set_option maxRecDepth 100000 in
theorem q1343 {s : State} {a : Array Value} (h : mT s) : (Jvm.Cond.methodLink "ShareVault$State" (203 : Nat) ({ cls := "ShareVault$State", name := "verdictOnOutcome", desc := "(I)I" } : Jvm.MethodName)).before a s = true := h _ (tin6 (List.mem_of_getElem? (l := tables_1_6) (i := 143) rfl)) rfl a
set_option maxRecDepth 100000 in
theorem q1345 {s : State} {a : Array Value} (h : mT s) : (Jvm.Cond.instanceMethod ({ cls := "ShareVault$State", name := "verdictOnOutcome", desc := "(I)I" } : Jvm.MethodName)).before a s = true := h _ (tin6 (List.mem_of_getElem? (l := tables_1_6) (i := 145) rfl)) rfl a
set_option maxRecDepth 100000 in
theorem q1347 {s : State} {a : Array Value} (h : mT s) : (Jvm.Cond.methodLink "ShareVault$State" (206 : Nat) ({ cls := "ShareVault$State", name := "tryClose", desc := "()I" } : Jvm.MethodName)).before a s = true := h _ (tin6 (List.mem_of_getElem? (l := tables_1_6) (i := 147) rfl)) rfl a
set_option maxRecDepth 100000 in
theorem q1348 {s : State} {a : Array Value} (h : mT s) : (Jvm.Cond.methodLink "ShareVault$State" (209 : Nat) ({ cls := "ShareVault$State", name := "tryGuard", desc := "(IZI)I" } : Jvm.MethodName)).before a s = true := h _ (tin6 (List.mem_of_getElem? (l := tables_1_6) (i := 148) rfl)) rfl a
set_option maxRecDepth 100000 in
theorem q1349 {s : State} {a : Array Value} (h : mT s) : (Jvm.Cond.methodLink "ShareVault$State" (212 : Nat) ({ cls := "ShareVault$State", name := "tryTurn", desc := "(I)I" } : Jvm.MethodName)).before a s = true := h _ (tin6 (List.mem_of_getElem? (l := tables_1_6) (i := 149) rfl)) rfl a
set_option maxRecDepth 100000 in
theorem q1350 {s : State} {a : Array Value} (h : mT s) : (Jvm.Cond.methodLink "ShareVault$State" (215 : Nat) ({ cls := "ShareVault$State", name := "tryHum", desc := "(II)I" } : Jvm.MethodName)).before a s = true := h _ (tin6 (List.mem_of_getElem? (l := tables_1_6) (i := 150) rfl)) rfl a
set_option maxRecDepth 100000 in
theorem q1351 {s : State} {a : Array Value} (h : mT s) : (Jvm.Cond.methodLink "ShareVault$State" (218 : Nat) ({ cls := "ShareVault$State", name := "tryHours", desc := "(I)I" } : Jvm.MethodName)).before a s = true := h _ (tin6 (List.mem_of_getElem? (l := tables_1_6) (i := 151) rfl)) rfl a
set_option maxRecDepth 100000 in
theorem q1352 {s : State} {a : Array Value} (h : mT s) : (Jvm.Cond.methodLink "ShareVault" (339 : Nat) ({ cls := "ShareVault$History", name := "prepared", desc := "()LShareVault$State;" } : Jvm.MethodName)).before a s = true := h _ (tin6 (List.mem_of_getElem? (l := tables_1_6) (i := 152) rfl)) rfl a
set_option maxRecDepth 100000 in
theorem q1353 {s : State} {a : Array Value} (h : mT s) : (Jvm.Cond.instanceMethod ({ cls := "ShareVault$History", name := "prepared", desc := "()LShareVault$State;" } : Jvm.MethodName)).before a s = true := h _ (tin6 (List.mem_of_getElem? (l := tables_1_6) (i := 153) rfl)) rfl a
set_option maxRecDepth 100000 in
theorem q1354 {s : State} {a : Array Value} (h : mT s) : (Jvm.Cond.selects "ShareVault$History" ({ cls := "ShareVault$History", name := "prepared", desc := "()LShareVault$State;" } : Jvm.MethodName) ({ cls := "ShareVault$History", name := "prepared", desc := "()LShareVault$State;" } : Jvm.MethodName)).before a s = true := h _ (tin6 (List.mem_of_getElem? (l := tables_1_6) (i := 154) rfl)) rfl a
set_option maxRecDepth 100000 in
theorem q1356 {s : State} {a : Array Value} (h : mT s) : (Jvm.Cond.methodLink "ShareVault" (343 : Nat) ({ cls := "ShareVault$State", name := "copyFrom", desc := "(LShareVault$State;)V" } : Jvm.MethodName)).before a s = true := h _ (tin6 (List.mem_of_getElem? (l := tables_1_6) (i := 156) rfl)) rfl a
set_option maxRecDepth 100000 in
theorem q1404 {s : State} {a : Array Value} (h : mT s) : (Jvm.Cond.static ({ cls := "java/lang/Integer", name := "bitCount", desc := "(I)I" } : Jvm.MethodName)).before a s = true := h _ (tin6 (List.mem_of_getElem? (l := tables_1_6) (i := 204) rfl)) rfl a
set_option maxRecDepth 100000 in
theorem q1406 {s : State} {a : Array Value} (h : mT s) : (Jvm.Cond.constant "java/lang/Integer" (265 : Nat) (1431655765 : Int32)).before a s = true := h _ (tin6 (List.mem_of_getElem? (l := tables_1_6) (i := 206) rfl)) rfl a
set_option maxRecDepth 100000 in
theorem q1407 {s : State} {a : Array Value} (h : mT s) : (Jvm.Cond.constant "java/lang/Integer" (266 : Nat) (858993459 : Int32)).before a s = true := h _ (tin6 (List.mem_of_getElem? (l := tables_1_6) (i := 207) rfl)) rfl a
set_option maxRecDepth 100000 in
theorem q1408 {s : State} {a : Array Value} (h : mT s) : (Jvm.Cond.constant "java/lang/Integer" (267 : Nat) (252645135 : Int32)).before a s = true := h _ (tin6 (List.mem_of_getElem? (l := tables_1_6) (i := 208) rfl)) rfl a
set_option maxRecDepth 100000 in
theorem q1416 {s : State} {a : Array Value} (h : mT s) : (Jvm.Cond.methodLink "ShareVault" (167 : Nat) ({ cls := "ShareVault$Solver", name := "secretOf", desc := "(LShareVault$Keys;)I" } : Jvm.MethodName)).before a s = true := h _ (tin6 (List.mem_of_getElem? (l := tables_1_6) (i := 216) rfl)) rfl a
set_option maxRecDepth 100000 in
theorem q1417 {s : State} {a : Array Value} (h : mT s) : (Jvm.Cond.instanceMethod ({ cls := "ShareVault$Solver", name := "secretOf", desc := "(LShareVault$Keys;)I" } : Jvm.MethodName)).before a s = true := h _ (tin6 (List.mem_of_getElem? (l := tables_1_6) (i := 217) rfl)) rfl a
set_option maxRecDepth 100000 in
theorem q1418 {s : State} {a : Array Value} (h : mT s) : (Jvm.Cond.selects "ShareVault$Solver" ({ cls := "ShareVault$Solver", name := "secretOf", desc := "(LShareVault$Keys;)I" } : Jvm.MethodName) ({ cls := "ShareVault$Solver", name := "secretOf", desc := "(LShareVault$Keys;)I" } : Jvm.MethodName)).before a s = true := h _ (tin6 (List.mem_of_getElem? (l := tables_1_6) (i := 218) rfl)) rfl a
set_option maxRecDepth 100000 in
theorem q1420 {s : State} {a : Array Value} (h : mT s) : (Jvm.Cond.methodLink "ShareVault$Solver" (28 : Nat) ({ cls := "ShareVault$Solver", name := "fit", desc := "(LShareVault$Keys;[I)V" } : Jvm.MethodName)).before a s = true := h _ (tin6 (List.mem_of_getElem? (l := tables_1_6) (i := 220) rfl)) rfl a
set_option maxRecDepth 100000 in
theorem q1422 {s : State} {a : Array Value} (h : mT s) : (Jvm.Cond.instanceMethod ({ cls := "ShareVault$Solver", name := "fit", desc := "(LShareVault$Keys;[I)V" } : Jvm.MethodName)).before a s = true := h _ (tin6 (List.mem_of_getElem? (l := tables_1_6) (i := 222) rfl)) rfl a
set_option maxRecDepth 100000 in
theorem q1424 {s : State} {a : Array Value} (h : mT s) : (Jvm.Cond.methodLink "ShareVault$Solver" (73 : Nat) ({ cls := "ShareVault$Solver", name := "setEquation", desc := "(IIII)V" } : Jvm.MethodName)).before a s = true := h _ (tin6 (List.mem_of_getElem? (l := tables_1_6) (i := 224) rfl)) rfl a
set_option maxRecDepth 100000 in
theorem q1426 {s : State} {a : Array Value} (h : mT s) : (Jvm.Cond.instanceMethod ({ cls := "ShareVault$Solver", name := "setEquation", desc := "(IIII)V" } : Jvm.MethodName)).before a s = true := h _ (tin6 (List.mem_of_getElem? (l := tables_1_6) (i := 226) rfl)) rfl a
set_option maxRecDepth 100000 in
theorem q1428 {s : State} {a : Array Value} (h : mT s) : (Jvm.Cond.methodLink "ShareVault$Solver" (66 : Nat) ({ cls := "ShareVault$Keys", name := "positionOf", desc := "(I)I" } : Jvm.MethodName)).before a s = true := h _ (tin6 (List.mem_of_getElem? (l := tables_1_6) (i := 228) rfl)) rfl a
set_option maxRecDepth 100000 in
theorem q1429 {s : State} {a : Array Value} (h : mT s) : (Jvm.Cond.methodLink "ShareVault$Solver" (77 : Nat) ({ cls := "ShareVault$Solver", name := "eliminate", desc := "(II)V" } : Jvm.MethodName)).before a s = true := h _ (tin6 (List.mem_of_getElem? (l := tables_1_6) (i := 229) rfl)) rfl a
set_option maxRecDepth 100000 in
theorem q1431 {s : State} {a : Array Value} (h : mT s) : (Jvm.Cond.instanceMethod ({ cls := "ShareVault$Solver", name := "eliminate", desc := "(II)V" } : Jvm.MethodName)).before a s = true := h _ (tin6 (List.mem_of_getElem? (l := tables_1_6) (i := 231) rfl)) rfl a
set_option maxRecDepth 100000 in
theorem q1433 {s : State} {a : Array Value} (h : mT s) : (Jvm.Cond.fieldLinkNest "ShareVault$Solver" (81 : Nat) "ShareVault" "INVERSES" "[I" "ShareVault").before a s = true := h _ (tin6 (List.mem_of_getElem? (l := tables_1_6) (i := 233) rfl)) rfl a
set_option maxRecDepth 100000 in
theorem q1434 {s : State} {a : Array Value} (h : mT s) : (Jvm.Cond.methodLink "ShareVault$Solver" (84 : Nat) ({ cls := "ShareVault$Solver", name := "subtract", desc := "([I[III)V" } : Jvm.MethodName)).before a s = true := h _ (tin6 (List.mem_of_getElem? (l := tables_1_6) (i := 234) rfl)) rfl a
set_option maxRecDepth 100000 in
theorem q1435 {s : State} {a : Array Value} (h : mT s) : (Jvm.Cond.static ({ cls := "ShareVault$Solver", name := "subtract", desc := "([I[III)V" } : Jvm.MethodName)).before a s = true := h _ (tin6 (List.mem_of_getElem? (l := tables_1_6) (i := 235) rfl)) rfl a
set_option maxRecDepth 100000 in
theorem q1437 {s : State} {a : Array Value} (h : mT s) : (Jvm.Cond.methodLink "ShareVault$Solver" (88 : Nat) ({ cls := "java/lang/Math", name := "floorMod", desc := "(II)I" } : Jvm.MethodName)).before a s = true := h _ (tin6 (List.mem_of_getElem? (l := tables_1_6) (i := 237) rfl)) rfl a
set_option maxRecDepth 100000 in
theorem q1438 {s : State} {a : Array Value} (h : mT s) : (Jvm.Cond.static ({ cls := "java/lang/Math", name := "floorMod", desc := "(II)I" } : Jvm.MethodName)).before a s = true := h _ (tin6 (List.mem_of_getElem? (l := tables_1_6) (i := 238) rfl)) rfl a
set_option maxRecDepth 100000 in
theorem q1455 {s : State} {a : Array Value} (h : mT s) : (Jvm.Cond.methodLink "ShareVault" (180 : Nat) ({ cls := "ShareVault$Solver", name := "mostOnCurves", desc := "(LShareVault$Keys;)I" } : Jvm.MethodName)).before a s = true := h _ (tin7 (List.mem_of_getElem? (l := tables_1_7) (i := 15) rfl)) rfl a
set_option maxRecDepth 100000 in
theorem q1456 {s : State} {a : Array Value} (h : mT s) : (Jvm.Cond.instanceMethod ({ cls := "ShareVault$Solver", name := "mostOnCurves", desc := "(LShareVault$Keys;)I" } : Jvm.MethodName)).before a s = true := h _ (tin7 (List.mem_of_getElem? (l := tables_1_7) (i := 16) rfl)) rfl a
set_option maxRecDepth 100000 in
theorem q1457 {s : State} {a : Array Value} (h : mT s) : (Jvm.Cond.selects "ShareVault$Solver" ({ cls := "ShareVault$Solver", name := "mostOnCurves", desc := "(LShareVault$Keys;)I" } : Jvm.MethodName) ({ cls := "ShareVault$Solver", name := "mostOnCurves", desc := "(LShareVault$Keys;)I" } : Jvm.MethodName)).before a s = true := h _ (tin7 (List.mem_of_getElem? (l := tables_1_7) (i := 17) rfl)) rfl a
set_option maxRecDepth 100000 in
theorem q1459 {s : State} {a : Array Value} (h : mT s) : (Jvm.Cond.methodLink "ShareVault$Solver" (36 : Nat) ({ cls := "java/lang/Integer", name := "bitCount", desc := "(I)I" } : Jvm.MethodName)).before a s = true := h _ (tin7 (List.mem_of_getElem? (l := tables_1_7) (i := 19) rfl)) rfl a
set_option maxRecDepth 100000 in
theorem q1460 {s : State} {a : Array Value} (h : mT s) : (Jvm.Cond.methodLink "ShareVault$Solver" (45 : Nat) ({ cls := "ShareVault$Solver", name := "choose", desc := "(LShareVault$Keys;I)V" } : Jvm.MethodName)).before a s = true := h _ (tin7 (List.mem_of_getElem? (l := tables_1_7) (i := 20) rfl)) rfl a
set_option maxRecDepth 100000 in
theorem q1462 {s : State} {a : Array Value} (h : mT s) : (Jvm.Cond.instanceMethod ({ cls := "ShareVault$Solver", name := "choose", desc := "(LShareVault$Keys;I)V" } : Jvm.MethodName)).before a s = true := h _ (tin7 (List.mem_of_getElem? (l := tables_1_7) (i := 22) rfl)) rfl a
set_option maxRecDepth 100000 in
theorem q1464 {s : State} {a : Array Value} (h : mT s) : (Jvm.Cond.methodLink "ShareVault$Solver" (49 : Nat) ({ cls := "ShareVault$Solver", name := "countOnCurve", desc := "(LShareVault$Keys;)I" } : Jvm.MethodName)).before a s = true := h _ (tin7 (List.mem_of_getElem? (l := tables_1_7) (i := 24) rfl)) rfl a
set_option maxRecDepth 100000 in
theorem q1466 {s : State} {a : Array Value} (h : mT s) : (Jvm.Cond.instanceMethod ({ cls := "ShareVault$Solver", name := "countOnCurve", desc := "(LShareVault$Keys;)I" } : Jvm.MethodName)).before a s = true := h _ (tin7 (List.mem_of_getElem? (l := tables_1_7) (i := 26) rfl)) rfl a
set_option maxRecDepth 100000 in
theorem q1468 {s : State} {a : Array Value} (h : mT s) : (Jvm.Cond.methodLink "ShareVault$Solver" (69 : Nat) ({ cls := "ShareVault$Keys", name := "valueOn", desc := "([II)I" } : Jvm.MethodName)).before a s = true := h _ (tin7 (List.mem_of_getElem? (l := tables_1_7) (i := 28) rfl)) rfl a
set_option maxRecDepth 100000 in
theorem q1469 {s : State} {a : Array Value} (h : mT s) : (Jvm.Cond.methodLink "ShareVault$Solver" (53 : Nat) ({ cls := "java/lang/Math", name := "max", desc := "(II)I" } : Jvm.MethodName)).before a s = true := h _ (tin7 (List.mem_of_getElem? (l := tables_1_7) (i := 29) rfl)) rfl a
set_option maxRecDepth 100000 in
theorem q1477 {s : State} {a : Array Value} (h : mT s) : (Jvm.Cond.methodLink "ShareVault" (183 : Nat) ({ cls := "ShareVault$Solver", name := "mostInSets", desc := "(LShareVault$Keys;)I" } : Jvm.MethodName)).before a s = true := h _ (tin7 (List.mem_of_getElem? (l := tables_1_7) (i := 37) rfl)) rfl a
set_option maxRecDepth 100000 in
theorem q1478 {s : State} {a : Array Value} (h : mT s) : (Jvm.Cond.instanceMethod ({ cls := "ShareVault$Solver", name := "mostInSets", desc := "(LShareVault$Keys;)I" } : Jvm.MethodName)).before a s = true := h _ (tin7 (List.mem_of_getElem? (l := tables_1_7) (i := 38) rfl)) rfl a
set_option maxRecDepth 100000 in
theorem q1479 {s : State} {a : Array Value} (h : mT s) : (Jvm.Cond.selects "ShareVault$Solver" ({ cls := "ShareVault$Solver", name := "mostInSets", desc := "(LShareVault$Keys;)I" } : Jvm.MethodName) ({ cls := "ShareVault$Solver", name := "mostInSets", desc := "(LShareVault$Keys;)I" } : Jvm.MethodName)).before a s = true := h _ (tin7 (List.mem_of_getElem? (l := tables_1_7) (i := 39) rfl)) rfl a
set_option maxRecDepth 100000 in
theorem q1481 {s : State} {a : Array Value} (h : mT s) : (Jvm.Cond.methodLink "ShareVault$Solver" (59 : Nat) ({ cls := "ShareVault$Keys", name := "isOneCurve", desc := "([II)Z" } : Jvm.MethodName)).before a s = true := h _ (tin7 (List.mem_of_getElem? (l := tables_1_7) (i := 41) rfl)) rfl a
set_option maxRecDepth 100000 in
theorem q1493 {s : State} {a : Array Value} (h : mT s) : (Jvm.Cond.methodLink "ShareVault" (250 : Nat) ({ cls := "ShareVault$Building", name := "zoneAtRank", desc := "(I)I" } : Jvm.MethodName)).before a s = true := h _ (tin7 (List.mem_of_getElem? (l := tables_1_7) (i := 53) rfl)) rfl a
set_option maxRecDepth 100000 in
theorem q1494 {s : State} {a : Array Value} (h : mT s) : (Jvm.Cond.instanceMethod ({ cls := "ShareVault$Building", name := "zoneAtRank", desc := "(I)I" } : Jvm.MethodName)).before a s = true := h _ (tin7 (List.mem_of_getElem? (l := tables_1_7) (i := 54) rfl)) rfl a
set_option maxRecDepth 100000 in
theorem q1495 {s : State} {a : Array Value} (h : mT s) : (Jvm.Cond.selects "ShareVault$Building" ({ cls := "ShareVault$Building", name := "zoneAtRank", desc := "(I)I" } : Jvm.MethodName) ({ cls := "ShareVault$Building", name := "zoneAtRank", desc := "(I)I" } : Jvm.MethodName)).before a s = true := h _ (tin7 (List.mem_of_getElem? (l := tables_1_7) (i := 55) rfl)) rfl a
set_option maxRecDepth 100000 in
theorem q1497 {s : State} {a : Array Value} (h : mT s) : (Jvm.Cond.methodLink "ShareVault$Building" (66 : Nat) ({ cls := "ShareVault$Building", name := "rankOf", desc := "(I)I" } : Jvm.MethodName)).before a s = true := h _ (tin7 (List.mem_of_getElem? (l := tables_1_7) (i := 57) rfl)) rfl a
set_option maxRecDepth 100000 in
theorem q1499 {s : State} {a : Array Value} (h : mT s) : (Jvm.Cond.instanceMethod ({ cls := "ShareVault$Building", name := "rankOf", desc := "(I)I" } : Jvm.MethodName)).before a s = true := h _ (tin7 (List.mem_of_getElem? (l := tables_1_7) (i := 59) rfl)) rfl a
set_option maxRecDepth 100000 in
theorem q1501 {s : State} {a : Array Value} (h : mT s) : (Jvm.Cond.methodLink "ShareVault$Building" (70 : Nat) ({ cls := "ShareVault$Building", name := "comesBefore", desc := "(II)Z" } : Jvm.MethodName)).before a s = true := h _ (tin7 (List.mem_of_getElem? (l := tables_1_7) (i := 61) rfl)) rfl a
set_option maxRecDepth 100000 in
theorem q1503 {s : State} {a : Array Value} (h : mT s) : (Jvm.Cond.instanceMethod ({ cls := "ShareVault$Building", name := "comesBefore", desc := "(II)Z" } : Jvm.MethodName)).before a s = true := h _ (tin7 (List.mem_of_getElem? (l := tables_1_7) (i := 63) rfl)) rfl a
set_option maxRecDepth 100000 in
theorem q1512 {s : State} {a : Array Value} (h : mT s) : (Jvm.Cond.methodLink "ShareVault" (224 : Nat) ({ cls := "ShareVault$Building", name := "hasGuardBeside", desc := "(I)Z" } : Jvm.MethodName)).before a s = true := h _ (tin7 (List.mem_of_getElem? (l := tables_1_7) (i := 72) rfl)) rfl a
set_option maxRecDepth 100000 in
theorem q1520 {s : State} {a : Array Value} (h : mT s) : (Jvm.Cond.methodLink "ShareVault" (233 : Nat) ({ cls := "ShareVault$Building", name := "visitByRemainders", desc := "(I)I" } : Jvm.MethodName)).before a s = true := h _ (tin7 (List.mem_of_getElem? (l := tables_1_7) (i := 80) rfl)) rfl a
set_option maxRecDepth 100000 in
theorem q1521 {s : State} {a : Array Value} (h : mT s) : (Jvm.Cond.instanceMethod ({ cls := "ShareVault$Building", name := "visitByRemainders", desc := "(I)I" } : Jvm.MethodName)).before a s = true := h _ (tin7 (List.mem_of_getElem? (l := tables_1_7) (i := 81) rfl)) rfl a
set_option maxRecDepth 100000 in
theorem q1522 {s : State} {a : Array Value} (h : mT s) : (Jvm.Cond.selects "ShareVault$Building" ({ cls := "ShareVault$Building", name := "visitByRemainders", desc := "(I)I" } : Jvm.MethodName) ({ cls := "ShareVault$Building", name := "visitByRemainders", desc := "(I)I" } : Jvm.MethodName)).before a s = true := h _ (tin7 (List.mem_of_getElem? (l := tables_1_7) (i := 82) rfl)) rfl a
set_option maxRecDepth 100000 in
theorem q1524 {s : State} {a : Array Value} (h : mT s) : (Jvm.Cond.methodLink "ShareVault$Building" (54 : Nat) ({ cls := "ShareVault$Building", name := "visitOf", desc := "(II)I" } : Jvm.MethodName)).before a s = true := h _ (tin7 (List.mem_of_getElem? (l := tables_1_7) (i := 84) rfl)) rfl a
set_option maxRecDepth 100000 in
theorem q1526 {s : State} {a : Array Value} (h : mT s) : (Jvm.Cond.instanceMethod ({ cls := "ShareVault$Building", name := "visitOf", desc := "(II)I" } : Jvm.MethodName)).before a s = true := h _ (tin7 (List.mem_of_getElem? (l := tables_1_7) (i := 86) rfl)) rfl a
set_option maxRecDepth 100000 in
theorem q1528 {s : State} {a : Array Value} (h : mT s) : (Jvm.Cond.methodLink "ShareVault$Building" (63 : Nat) ({ cls := "java/lang/Math", name := "floorMod", desc := "(II)I" } : Jvm.MethodName)).before a s = true := h _ (tin7 (List.mem_of_getElem? (l := tables_1_7) (i := 88) rfl)) rfl a
set_option maxRecDepth 100000 in
theorem q1529 {s : State} {a : Array Value} (h : mT s) : (Jvm.Cond.methodLink "ShareVault$Building" (58 : Nat) ({ cls := "java/lang/Math", name := "min", desc := "(II)I" } : Jvm.MethodName)).before a s = true := h _ (tin7 (List.mem_of_getElem? (l := tables_1_7) (i := 89) rfl)) rfl a
set_option maxRecDepth 100000 in
theorem q1551 {s : State} {a : Array Value} (h : mT s) : (Jvm.Cond.classLink "ShareVault" (287 : Nat) "java/lang/ArithmeticException").before a s = true := h _ (tin7 (List.mem_of_getElem? (l := tables_1_7) (i := 111) rfl)) rfl a
set_option maxRecDepth 100000 in
theorem q1560 {s : State} {a : Array Value} (h : mT s) : (Jvm.Cond.methodLink "ShareVault" (281 : Nat) ({ cls := "ShareVault$Building", name := "sumOf", desc := "([I)I" } : Jvm.MethodName)).before a s = true := h _ (tin7 (List.mem_of_getElem? (l := tables_1_7) (i := 120) rfl)) rfl a
set_option maxRecDepth 100000 in
theorem q1561 {s : State} {a : Array Value} (h : mT s) : (Jvm.Cond.static ({ cls := "ShareVault$Building", name := "sumOf", desc := "([I)I" } : Jvm.MethodName)).before a s = true := h _ (tin7 (List.mem_of_getElem? (l := tables_1_7) (i := 121) rfl)) rfl a
set_option maxRecDepth 100000 in
theorem q1563 {s : State} {a : Array Value} (h : mT s) : (Jvm.Cond.constantDouble "ShareVault" (285 : Nat) (4620693217682128896 : UInt64)).before a s = true := h _ (tin7 (List.mem_of_getElem? (l := tables_1_7) (i := 123) rfl)) rfl a
set_option maxRecDepth 100000 in
theorem q1569 {s : State} {a : Array Value} (h : mT s) : (Jvm.Cond.methodLink "ShareVault" (292 : Nat) ({ cls := "ShareVault", name := "doVisitsMatch", desc := "()Z" } : Jvm.MethodName)).before a s = true := h _ (tin7 (List.mem_of_getElem? (l := tables_1_7) (i := 129) rfl)) rfl a
set_option maxRecDepth 100000 in
theorem q1571 {s : State} {a : Array Value} (h : mT s) : (Jvm.Cond.instanceMethod ({ cls := "ShareVault", name := "doVisitsMatch", desc := "()Z" } : Jvm.MethodName)).before a s = true := h _ (tin7 (List.mem_of_getElem? (l := tables_1_7) (i := 131) rfl)) rfl a
set_option maxRecDepth 100000 in
theorem q1573 {s : State} {a : Array Value} (h : mT s) : (Jvm.Cond.methodLink "ShareVault" (295 : Nat) ({ cls := "ShareVault", name := "doTellingsMatch", desc := "()Z" } : Jvm.MethodName)).before a s = true := h _ (tin7 (List.mem_of_getElem? (l := tables_1_7) (i := 133) rfl)) rfl a
set_option maxRecDepth 100000 in
theorem q1575 {s : State} {a : Array Value} (h : mT s) : (Jvm.Cond.instanceMethod ({ cls := "ShareVault", name := "doTellingsMatch", desc := "()Z" } : Jvm.MethodName)).before a s = true := h _ (tin7 (List.mem_of_getElem? (l := tables_1_7) (i := 135) rfl)) rfl a
set_option maxRecDepth 100000 in
theorem q1593 {s : State} {a : Array Value} (h : mT s) : (Jvm.Cond.methodLink "ShareVault" (385 : Nat) ({ cls := "ShareVault$History", name := "takeLatest", desc := "()LShareVault$State;" } : Jvm.MethodName)).before a s = true := h _ (tin7 (List.mem_of_getElem? (l := tables_1_7) (i := 153) rfl)) rfl a
set_option maxRecDepth 100000 in
theorem q1594 {s : State} {a : Array Value} (h : mT s) : (Jvm.Cond.instanceMethod ({ cls := "ShareVault$History", name := "takeLatest", desc := "()LShareVault$State;" } : Jvm.MethodName)).before a s = true := h _ (tin7 (List.mem_of_getElem? (l := tables_1_7) (i := 154) rfl)) rfl a
set_option maxRecDepth 100000 in
theorem q1595 {s : State} {a : Array Value} (h : mT s) : (Jvm.Cond.selects "ShareVault$History" ({ cls := "ShareVault$History", name := "takeLatest", desc := "()LShareVault$State;" } : Jvm.MethodName) ({ cls := "ShareVault$History", name := "takeLatest", desc := "()LShareVault$State;" } : Jvm.MethodName)).before a s = true := h _ (tin7 (List.mem_of_getElem? (l := tables_1_7) (i := 155) rfl)) rfl a
set_option maxRecDepth 100000 in
theorem q1605 {s : State} {a : Array Value} (h : mT s) : (Jvm.Cond.methodLink "ShareVault" (393 : Nat) ({ cls := "ShareVault$History", name := "clear", desc := "()V" } : Jvm.MethodName)).before a s = true := h _ (tin7 (List.mem_of_getElem? (l := tables_1_7) (i := 165) rfl)) rfl a
set_option maxRecDepth 100000 in
theorem q1606 {s : State} {a : Array Value} (h : mT s) : (Jvm.Cond.instanceMethod ({ cls := "ShareVault$History", name := "clear", desc := "()V" } : Jvm.MethodName)).before a s = true := h _ (tin7 (List.mem_of_getElem? (l := tables_1_7) (i := 166) rfl)) rfl a
set_option maxRecDepth 100000 in
theorem q1607 {s : State} {a : Array Value} (h : mT s) : (Jvm.Cond.selects "ShareVault$History" ({ cls := "ShareVault$History", name := "clear", desc := "()V" } : Jvm.MethodName) ({ cls := "ShareVault$History", name := "clear", desc := "()V" } : Jvm.MethodName)).before a s = true := h _ (tin7 (List.mem_of_getElem? (l := tables_1_7) (i := 167) rfl)) rfl a
set_option maxRecDepth 100000 in
theorem q1642 {s : State} {a : Array Value} (h : mT s) : (Jvm.Cond.fieldLink "ShareVault$Commands" (62 : Nat) "ShareVault$Word" "letters" "Ljava/lang/String;").before a s = true := h _ (tin7 (List.mem_of_getElem? (l := tables_1_7) (i := 202) rfl)) rfl a
set_option maxRecDepth 100000 in
theorem q1643 {s : State} {a : Array Value} (h : mT s) : (Jvm.Cond.fieldLink "ShareVault$Commands" (51 : Nat) "ShareVault$Word" "form" "Ljava/lang/String;").before a s = true := h _ (tin7 (List.mem_of_getElem? (l := tables_1_7) (i := 203) rfl)) rfl a
set_option maxRecDepth 100000 in
theorem q1644 {s : State} {a : Array Value} (h : mT s) : (Jvm.Cond.fieldLink "java/lang/Enum" (7 : Nat) "java/lang/Enum" "ordinal" "I").before a s = true := h _ (tin7 (List.mem_of_getElem? (l := tables_1_7) (i := 204) rfl)) rfl a
set_option maxRecDepth 100000 in
theorem kc_X11_addGuard : Cond.code yX11_addGuard cX11_addGuard 4 (some .int) ∈ lw_tbl := tin4 (List.mem_of_getElem? (l := tables_1_4) (i := 193) rfl)
set_option maxRecDepth 100000 in
theorem ki_X11_addGuard : Cond.initialized yX11_addGuard.cls ∈ lw_tbl := tin1 (List.mem_of_getElem? (l := tables_1_1) (i := 1) rfl)
set_option maxRecDepth 100000 in
theorem kc_X11_addHolder : Cond.code yX11_addHolder cX11_addHolder 1 (some .int) ∈ lw_tbl := tin4 (List.mem_of_getElem? (l := tables_1_4) (i := 3) rfl)
set_option maxRecDepth 100000 in
theorem ki_X11_addHolder : Cond.initialized yX11_addHolder.cls ∈ lw_tbl := tin1 (List.mem_of_getElem? (l := tables_1_1) (i := 1) rfl)
set_option maxRecDepth 100000 in
theorem kc_X11_alarmCount : Cond.code yX11_alarmCount cX11_alarmCount 1 (some .int) ∈ lw_tbl := tin2 (List.mem_of_getElem? (l := tables_1_2) (i := 118) rfl)
set_option maxRecDepth 100000 in
theorem ki_X11_alarmCount : Cond.initialized yX11_alarmCount.cls ∈ lw_tbl := tin1 (List.mem_of_getElem? (l := tables_1_1) (i := 1) rfl)
set_option maxRecDepth 100000 in
theorem kc_X11_alarmShare : Cond.code yX11_alarmShare cX11_alarmShare 2 (some .float) ∈ lw_tbl := tin7 (List.mem_of_getElem? (l := tables_1_7) (i := 110) rfl)
set_option maxRecDepth 100000 in
theorem ki_X11_alarmShare : Cond.initialized yX11_alarmShare.cls ∈ lw_tbl := tin1 (List.mem_of_getElem? (l := tables_1_1) (i := 1) rfl)
set_option maxRecDepth 100000 in
theorem kc_X11_alarmsIn : Cond.code yX11_alarmsIn cX11_alarmsIn 3 (some .int) ∈ lw_tbl := tin3 (List.mem_of_getElem? (l := tables_1_3) (i := 155) rfl)
set_option maxRecDepth 100000 in
theorem ki_X11_alarmsIn : Cond.initialized yX11_alarmsIn.cls ∈ lw_tbl := tin1 (List.mem_of_getElem? (l := tables_1_1) (i := 1) rfl)
set_option maxRecDepth 100000 in
theorem kc_X11_alarmsOf : Cond.code yX11_alarmsOf cX11_alarmsOf 2 (some .int) ∈ lw_tbl := tin6 (List.mem_of_getElem? (l := tables_1_6) (i := 185) rfl)
set_option maxRecDepth 100000 in
theorem ki_X11_alarmsOf : Cond.initialized yX11_alarmsOf.cls ∈ lw_tbl := tin1 (List.mem_of_getElem? (l := tables_1_1) (i := 1) rfl)
set_option maxRecDepth 100000 in
theorem kc_X11_closeVault : Cond.code yX11_closeVault cX11_closeVault 1 (some .int) ∈ lw_tbl := tin4 (List.mem_of_getElem? (l := tables_1_4) (i := 182) rfl)
set_option maxRecDepth 100000 in
theorem ki_X11_closeVault : Cond.initialized yX11_closeVault.cls ∈ lw_tbl := tin1 (List.mem_of_getElem? (l := tables_1_1) (i := 1) rfl)
set_option maxRecDepth 100000 in
theorem kc_X11_doAgree : Cond.code yX11_doAgree cX11_doAgree 1 (some .boolean) ∈ lw_tbl := tin3 (List.mem_of_getElem? (l := tables_1_3) (i := 82) rfl)
set_option maxRecDepth 100000 in
theorem ki_X11_doAgree : Cond.initialized yX11_doAgree.cls ∈ lw_tbl := tin1 (List.mem_of_getElem? (l := tables_1_1) (i := 1) rfl)
set_option maxRecDepth 100000 in
theorem kc_X11_doTellingsMatch : Cond.code yX11_doTellingsMatch cX11_doTellingsMatch 2 (some .boolean) ∈ lw_tbl := tin7 (List.mem_of_getElem? (l := tables_1_7) (i := 136) rfl)
set_option maxRecDepth 100000 in
theorem ki_X11_doTellingsMatch : Cond.initialized yX11_doTellingsMatch.cls ∈ lw_tbl := tin1 (List.mem_of_getElem? (l := tables_1_1) (i := 1) rfl)
set_option maxRecDepth 100000 in
theorem kc_X11_doVisitsMatch : Cond.code yX11_doVisitsMatch cX11_doVisitsMatch 2 (some .boolean) ∈ lw_tbl := tin7 (List.mem_of_getElem? (l := tables_1_7) (i := 132) rfl)
set_option maxRecDepth 100000 in
theorem ki_X11_doVisitsMatch : Cond.initialized yX11_doVisitsMatch.cls ∈ lw_tbl := tin1 (List.mem_of_getElem? (l := tables_1_1) (i := 1) rfl)
set_option maxRecDepth 100000 in
theorem kc_X11_failedAttempts : Cond.code yX11_failedAttempts cX11_failedAttempts 1 (some .int) ∈ lw_tbl := tin2 (List.mem_of_getElem? (l := tables_1_2) (i := 114) rfl)
set_option maxRecDepth 100000 in
theorem ki_X11_failedAttempts : Cond.initialized yX11_failedAttempts.cls ∈ lw_tbl := tin1 (List.mem_of_getElem? (l := tables_1_1) (i := 1) rfl)
set_option maxRecDepth 100000 in
theorem kc_X11_feed : Cond.code yX11_feed cX11_feed 2 (some .int) ∈ lw_tbl := tin6 (List.mem_of_getElem? (l := tables_1_6) (i := 43) rfl)
set_option maxRecDepth 100000 in
theorem ki_X11_feed : Cond.initialized yX11_feed.cls ∈ lw_tbl := tin1 (List.mem_of_getElem? (l := tables_1_1) (i := 1) rfl)
set_option maxRecDepth 100000 in
theorem kc_X11_guardCount : Cond.code yX11_guardCount cX11_guardCount 1 (some .int) ∈ lw_tbl := tin3 (List.mem_of_getElem? (l := tables_1_3) (i := 199) rfl)
set_option maxRecDepth 100000 in
theorem ki_X11_guardCount : Cond.initialized yX11_guardCount.cls ∈ lw_tbl := tin1 (List.mem_of_getElem? (l := tables_1_1) (i := 1) rfl)
set_option maxRecDepth 100000 in
theorem kc_X11_holderCount : Cond.code yX11_holderCount cX11_holderCount 1 (some .int) ∈ lw_tbl := tin2 (List.mem_of_getElem? (l := tables_1_2) (i := 98) rfl)
set_option maxRecDepth 100000 in
theorem ki_X11_holderCount : Cond.initialized yX11_holderCount.cls ∈ lw_tbl := tin1 (List.mem_of_getElem? (l := tables_1_1) (i := 1) rfl)
set_option maxRecDepth 100000 in
theorem kc_X11_hour : Cond.code yX11_hour cX11_hour 1 (some .int) ∈ lw_tbl := tin2 (List.mem_of_getElem? (l := tables_1_2) (i := 94) rfl)
set_option maxRecDepth 100000 in
theorem ki_X11_hour : Cond.initialized yX11_hour.cls ∈ lw_tbl := tin1 (List.mem_of_getElem? (l := tables_1_1) (i := 1) rfl)
set_option maxRecDepth 100000 in
theorem kc_X11_hoursUntilVisit : Cond.code yX11_hoursUntilVisit cX11_hoursUntilVisit 2 (some .int) ∈ lw_tbl := tin3 (List.mem_of_getElem? (l := tables_1_3) (i := 101) rfl)
set_option maxRecDepth 100000 in
theorem ki_X11_hoursUntilVisit : Cond.initialized yX11_hoursUntilVisit.cls ∈ lw_tbl := tin1 (List.mem_of_getElem? (l := tables_1_1) (i := 1) rfl)
set_option maxRecDepth 100000 in
theorem kc_X11_hoursUntilVisitByRemainders : Cond.code yX11_hoursUntilVisitByRemainders cX11_hoursUntilVisitByRemainders 2 (some .int) ∈ lw_tbl := tin7 (List.mem_of_getElem? (l := tables_1_7) (i := 79) rfl)
set_option maxRecDepth 100000 in
theorem ki_X11_hoursUntilVisitByRemainders : Cond.initialized yX11_hoursUntilVisitByRemainders.cls ∈ lw_tbl := tin1 (List.mem_of_getElem? (l := tables_1_1) (i := 1) rfl)
set_option maxRecDepth 100000 in
theorem kc_X11_hum : Cond.code yX11_hum cX11_hum 3 (some .int) ∈ lw_tbl := tin4 (List.mem_of_getElem? (l := tables_1_4) (i := 221) rfl)
set_option maxRecDepth 100000 in
theorem ki_X11_hum : Cond.initialized yX11_hum.cls ∈ lw_tbl := tin1 (List.mem_of_getElem? (l := tables_1_1) (i := 1) rfl)
set_option maxRecDepth 100000 in
theorem kc_X11_isConsistent : Cond.code yX11_isConsistent cX11_isConsistent 1 (some .boolean) ∈ lw_tbl := tin7 (List.mem_of_getElem? (l := tables_1_7) (i := 128) rfl)
set_option maxRecDepth 100000 in
theorem ki_X11_isConsistent : Cond.initialized yX11_isConsistent.cls ∈ lw_tbl := tin1 (List.mem_of_getElem? (l := tables_1_1) (i := 1) rfl)
set_option maxRecDepth 100000 in
theorem kc_X11_isCorrect : Cond.code yX11_isCorrect cX11_isCorrect 2 (some .boolean) ∈ lw_tbl := tin3 (List.mem_of_getElem? (l := tables_1_3) (i := 225) rfl)
set_option maxRecDepth 100000 in
theorem ki_X11_isCorrect : Cond.initialized yX11_isCorrect.cls ∈ lw_tbl := tin1 (List.mem_of_getElem? (l := tables_1_1) (i := 1) rfl)
set_option maxRecDepth 100000 in
theorem kc_X11_isForwards : Cond.code yX11_isForwards cX11_isForwards 2 (some .boolean) ∈ lw_tbl := tin6 (List.mem_of_getElem? (l := tables_1_6) (i := 192) rfl)
set_option maxRecDepth 100000 in
theorem ki_X11_isForwards : Cond.initialized yX11_isForwards.cls ∈ lw_tbl := tin1 (List.mem_of_getElem? (l := tables_1_1) (i := 1) rfl)
set_option maxRecDepth 100000 in
theorem kc_X11_isGuarded : Cond.code yX11_isGuarded cX11_isGuarded 2 (some .boolean) ∈ lw_tbl := tin7 (List.mem_of_getElem? (l := tables_1_7) (i := 71) rfl)
set_option maxRecDepth 100000 in
theorem ki_X11_isGuarded : Cond.initialized yX11_isGuarded.cls ∈ lw_tbl := tin1 (List.mem_of_getElem? (l := tables_1_1) (i := 1) rfl)
set_option maxRecDepth 100000 in
theorem kc_X11_isOpen : Cond.code yX11_isOpen cX11_isOpen 1 (some .boolean) ∈ lw_tbl := tin2 (List.mem_of_getElem? (l := tables_1_2) (i := 106) rfl)
set_option maxRecDepth 100000 in
theorem ki_X11_isOpen : Cond.initialized yX11_isOpen.cls ∈ lw_tbl := tin1 (List.mem_of_getElem? (l := tables_1_1) (i := 1) rfl)
set_option maxRecDepth 100000 in
theorem kc_X11_isPresented : Cond.code yX11_isPresented cX11_isPresented 2 (some .boolean) ∈ lw_tbl := tin3 (List.mem_of_getElem? (l := tables_1_3) (i := 12) rfl)
set_option maxRecDepth 100000 in
theorem ki_X11_isPresented : Cond.initialized yX11_isPresented.cls ∈ lw_tbl := tin1 (List.mem_of_getElem? (l := tables_1_1) (i := 1) rfl)
set_option maxRecDepth 100000 in
theorem kc_X11_isSealed : Cond.code yX11_isSealed cX11_isSealed 1 (some .boolean) ∈ lw_tbl := tin6 (List.mem_of_getElem? (l := tables_1_6) (i := 199) rfl)
set_option maxRecDepth 100000 in
theorem ki_X11_isSealed : Cond.initialized yX11_isSealed.cls ∈ lw_tbl := tin1 (List.mem_of_getElem? (l := tables_1_1) (i := 1) rfl)
set_option maxRecDepth 100000 in
theorem kc_X11_keepRefusal : Cond.code yX11_keepRefusal cX11_keepRefusal 4 (none) ∈ lw_tbl := tin4 (List.mem_of_getElem? (l := tables_1_4) (i := 50) rfl)
set_option maxRecDepth 100000 in
theorem ki_X11_keepRefusal : Cond.initialized yX11_keepRefusal.cls ∈ lw_tbl := tin1 (List.mem_of_getElem? (l := tables_1_1) (i := 1) rfl)
set_option maxRecDepth 100000 in
theorem kc_X11_lockedHours : Cond.code yX11_lockedHours cX11_lockedHours 1 (some .int) ∈ lw_tbl := tin2 (List.mem_of_getElem? (l := tables_1_2) (i := 110) rfl)
set_option maxRecDepth 100000 in
theorem ki_X11_lockedHours : Cond.initialized yX11_lockedHours.cls ∈ lw_tbl := tin1 (List.mem_of_getElem? (l := tables_1_1) (i := 1) rfl)
set_option maxRecDepth 100000 in
theorem kc_X11_logCount : Cond.code yX11_logCount cX11_logCount 1 (some .int) ∈ lw_tbl := tin2 (List.mem_of_getElem? (l := tables_1_2) (i := 126) rfl)
set_option maxRecDepth 100000 in
theorem ki_X11_logCount : Cond.initialized yX11_logCount.cls ∈ lw_tbl := tin1 (List.mem_of_getElem? (l := tables_1_1) (i := 1) rfl)
set_option maxRecDepth 100000 in
theorem kc_X11_logDetail : Cond.code yX11_logDetail cX11_logDetail 2 (some .int) ∈ lw_tbl := tin3 (List.mem_of_getElem? (l := tables_1_3) (i := 192) rfl)
set_option maxRecDepth 100000 in
theorem ki_X11_logDetail : Cond.initialized yX11_logDetail.cls ∈ lw_tbl := tin1 (List.mem_of_getElem? (l := tables_1_1) (i := 1) rfl)
set_option maxRecDepth 100000 in
theorem kc_X11_logHour : Cond.code yX11_logHour cX11_logHour 2 (some .int) ∈ lw_tbl := tin3 (List.mem_of_getElem? (l := tables_1_3) (i := 173) rfl)
set_option maxRecDepth 100000 in
theorem ki_X11_logHour : Cond.initialized yX11_logHour.cls ∈ lw_tbl := tin1 (List.mem_of_getElem? (l := tables_1_1) (i := 1) rfl)
set_option maxRecDepth 100000 in
theorem kc_X11_logKind : Cond.code yX11_logKind cX11_logKind 2 (some .char) ∈ lw_tbl := tin3 (List.mem_of_getElem? (l := tables_1_3) (i := 185) rfl)
set_option maxRecDepth 100000 in
theorem ki_X11_logKind : Cond.initialized yX11_logKind.cls ∈ lw_tbl := tin1 (List.mem_of_getElem? (l := tables_1_1) (i := 1) rfl)
set_option maxRecDepth 100000 in
theorem kc_X11_meanNoise : Cond.code yX11_meanNoise cX11_meanNoise 1 (some .double) ∈ lw_tbl := tin7 (List.mem_of_getElem? (l := tables_1_7) (i := 119) rfl)
set_option maxRecDepth 100000 in
theorem ki_X11_meanNoise : Cond.initialized yX11_meanNoise.cls ∈ lw_tbl := tin1 (List.mem_of_getElem? (l := tables_1_1) (i := 1) rfl)
set_option maxRecDepth 100000 in
theorem kc_X11_mostAgreeing : Cond.code yX11_mostAgreeing cX11_mostAgreeing 1 (some .int) ∈ lw_tbl := tin7 (List.mem_of_getElem? (l := tables_1_7) (i := 14) rfl)
set_option maxRecDepth 100000 in
theorem ki_X11_mostAgreeing : Cond.initialized yX11_mostAgreeing.cls ∈ lw_tbl := tin1 (List.mem_of_getElem? (l := tables_1_1) (i := 1) rfl)
set_option maxRecDepth 100000 in
theorem kc_X11_mostAgreeingBySets : Cond.code yX11_mostAgreeingBySets cX11_mostAgreeingBySets 1 (some .int) ∈ lw_tbl := tin7 (List.mem_of_getElem? (l := tables_1_7) (i := 36) rfl)
set_option maxRecDepth 100000 in
theorem ki_X11_mostAgreeingBySets : Cond.initialized yX11_mostAgreeingBySets.cls ∈ lw_tbl := tin1 (List.mem_of_getElem? (l := tables_1_1) (i := 1) rfl)
set_option maxRecDepth 100000 in
theorem kc_X11_noise : Cond.code yX11_noise cX11_noise 2 (some .int) ∈ lw_tbl := tin6 (List.mem_of_getElem? (l := tables_1_6) (i := 178) rfl)
set_option maxRecDepth 100000 in
theorem ki_X11_noise : Cond.initialized yX11_noise.cls ∈ lw_tbl := tin1 (List.mem_of_getElem? (l := tables_1_1) (i := 1) rfl)
set_option maxRecDepth 100000 in
theorem kc_X11_openVault : Cond.code yX11_openVault cX11_openVault 1 (some .boolean) ∈ lw_tbl := tin4 (List.mem_of_getElem? (l := tables_1_4) (i := 144) rfl)
set_option maxRecDepth 100000 in
theorem ki_X11_openVault : Cond.initialized yX11_openVault.cls ∈ lw_tbl := tin1 (List.mem_of_getElem? (l := tables_1_1) (i := 1) rfl)
set_option maxRecDepth 100000 in
theorem kc_X11_openingCount : Cond.code yX11_openingCount cX11_openingCount 1 (some .int) ∈ lw_tbl := tin2 (List.mem_of_getElem? (l := tables_1_2) (i := 122) rfl)
set_option maxRecDepth 100000 in
theorem ki_X11_openingCount : Cond.initialized yX11_openingCount.cls ∈ lw_tbl := tin1 (List.mem_of_getElem? (l := tables_1_1) (i := 1) rfl)
set_option maxRecDepth 100000 in
theorem kc_X11_passHours : Cond.code yX11_passHours cX11_passHours 2 (some .int) ∈ lw_tbl := tin4 (List.mem_of_getElem? (l := tables_1_4) (i := 233) rfl)
set_option maxRecDepth 100000 in
theorem ki_X11_passHours : Cond.initialized yX11_passHours.cls ∈ lw_tbl := tin1 (List.mem_of_getElem? (l := tables_1_1) (i := 1) rfl)
set_option maxRecDepth 100000 in
theorem kc_X11_present : Cond.code yX11_present cX11_present 2 (some .int) ∈ lw_tbl := tin4 (List.mem_of_getElem? (l := tables_1_4) (i := 114) rfl)
set_option maxRecDepth 100000 in
theorem ki_X11_present : Cond.initialized yX11_present.cls ∈ lw_tbl := tin1 (List.mem_of_getElem? (l := tables_1_1) (i := 1) rfl)
set_option maxRecDepth 100000 in
theorem kc_X11_presentedAt : Cond.code yX11_presentedAt cX11_presentedAt 2 (some .int) ∈ lw_tbl := tin3 (List.mem_of_getElem? (l := tables_1_3) (i := 44) rfl)
set_option maxRecDepth 100000 in
theorem ki_X11_presentedAt : Cond.initialized yX11_presentedAt.cls ∈ lw_tbl := tin1 (List.mem_of_getElem? (l := tables_1_1) (i := 1) rfl)
set_option maxRecDepth 100000 in
theorem kc_X11_presentedCount : Cond.code yX11_presentedCount cX11_presentedCount 1 (some .int) ∈ lw_tbl := tin2 (List.mem_of_getElem? (l := tables_1_2) (i := 102) rfl)
set_option maxRecDepth 100000 in
theorem ki_X11_presentedCount : Cond.initialized yX11_presentedCount.cls ∈ lw_tbl := tin1 (List.mem_of_getElem? (l := tables_1_1) (i := 1) rfl)
set_option maxRecDepth 100000 in
theorem kc_X11_requireEnoughKeys : Cond.code yX11_requireEnoughKeys cX11_requireEnoughKeys 1 (none) ∈ lw_tbl := tin3 (List.mem_of_getElem? (l := tables_1_3) (i := 56) rfl)
set_option maxRecDepth 100000 in
theorem ki_X11_requireEnoughKeys : Cond.initialized yX11_requireEnoughKeys.cls ∈ lw_tbl := tin1 (List.mem_of_getElem? (l := tables_1_1) (i := 1) rfl)
set_option maxRecDepth 100000 in
theorem kc_X11_requireEntry : Cond.code yX11_requireEntry cX11_requireEntry 2 (none) ∈ lw_tbl := tin3 (List.mem_of_getElem? (l := tables_1_3) (i := 177) rfl)
set_option maxRecDepth 100000 in
theorem ki_X11_requireEntry : Cond.initialized yX11_requireEntry.cls ∈ lw_tbl := tin1 (List.mem_of_getElem? (l := tables_1_1) (i := 1) rfl)
set_option maxRecDepth 100000 in
theorem kc_X11_requireGuard : Cond.code yX11_requireGuard cX11_requireGuard 2 (none) ∈ lw_tbl := tin3 (List.mem_of_getElem? (l := tables_1_3) (i := 210) rfl)
set_option maxRecDepth 100000 in
theorem ki_X11_requireGuard : Cond.initialized yX11_requireGuard.cls ∈ lw_tbl := tin1 (List.mem_of_getElem? (l := tables_1_1) (i := 1) rfl)
set_option maxRecDepth 100000 in
theorem kc_X11_requireGuards : Cond.code yX11_requireGuards cX11_requireGuards 1 (none) ∈ lw_tbl := tin3 (List.mem_of_getElem? (l := tables_1_3) (i := 128) rfl)
set_option maxRecDepth 100000 in
theorem ki_X11_requireGuards : Cond.initialized yX11_requireGuards.cls ∈ lw_tbl := tin1 (List.mem_of_getElem? (l := tables_1_1) (i := 1) rfl)
set_option maxRecDepth 100000 in
theorem kc_X11_requireHolder : Cond.code yX11_requireHolder cX11_requireHolder 2 (none) ∈ lw_tbl := tin3 (List.mem_of_getElem? (l := tables_1_3) (i := 16) rfl)
set_option maxRecDepth 100000 in
theorem ki_X11_requireHolder : Cond.initialized yX11_requireHolder.cls ∈ lw_tbl := tin1 (List.mem_of_getElem? (l := tables_1_1) (i := 1) rfl)
set_option maxRecDepth 100000 in
theorem kc_X11_requireSeal : Cond.code yX11_requireSeal cX11_requireSeal 1 (none) ∈ lw_tbl := tin2 (List.mem_of_getElem? (l := tables_1_2) (i := 149) rfl)
set_option maxRecDepth 100000 in
theorem ki_X11_requireSeal : Cond.initialized yX11_requireSeal.cls ∈ lw_tbl := tin1 (List.mem_of_getElem? (l := tables_1_1) (i := 1) rfl)
set_option maxRecDepth 100000 in
theorem kc_X11_requireZone : Cond.code yX11_requireZone cX11_requireZone 2 (none) ∈ lw_tbl := tin3 (List.mem_of_getElem? (l := tables_1_3) (i := 105) rfl)
set_option maxRecDepth 100000 in
theorem ki_X11_requireZone : Cond.initialized yX11_requireZone.cls ∈ lw_tbl := tin1 (List.mem_of_getElem? (l := tables_1_1) (i := 1) rfl)
set_option maxRecDepth 100000 in
theorem kc_X11_restore : Cond.code yX11_restore cX11_restore 1 (some .int) ∈ lw_tbl := tin7 (List.mem_of_getElem? (l := tables_1_7) (i := 163) rfl)
set_option maxRecDepth 100000 in
theorem ki_X11_restore : Cond.initialized yX11_restore.cls ∈ lw_tbl := tin1 (List.mem_of_getElem? (l := tables_1_1) (i := 1) rfl)
set_option maxRecDepth 100000 in
theorem kc_X11_runCommands : Cond.code yX11_runCommands cX11_runCommands 4 (some .int) ∈ lw_tbl := tin6 (List.mem_of_getElem? (l := tables_1_6) (i := 70) rfl)
set_option maxRecDepth 100000 in
theorem ki_X11_runCommands : Cond.initialized yX11_runCommands.cls ∈ lw_tbl := tin1 (List.mem_of_getElem? (l := tables_1_1) (i := 1) rfl)
set_option maxRecDepth 100000 in
theorem kc_X11_save : Cond.code yX11_save cX11_save 1 (some .int) ∈ lw_tbl := tin7 (List.mem_of_getElem? (l := tables_1_7) (i := 143) rfl)
set_option maxRecDepth 100000 in
theorem ki_X11_save : Cond.initialized yX11_save.cls ∈ lw_tbl := tin1 (List.mem_of_getElem? (l := tables_1_1) (i := 1) rfl)
set_option maxRecDepth 100000 in
theorem kc_X11_seal : Cond.code yX11_seal cX11_seal 5 (some .int) ∈ lw_tbl := tin4 (List.mem_of_getElem? (l := tables_1_4) (i := 80) rfl)
set_option maxRecDepth 100000 in
theorem ki_X11_seal : Cond.initialized yX11_seal.cls ∈ lw_tbl := tin1 (List.mem_of_getElem? (l := tables_1_1) (i := 1) rfl)
set_option maxRecDepth 100000 in
theorem kc_X11_setShare : Cond.code yX11_setShare cX11_setShare 3 (some .int) ∈ lw_tbl := tin4 (List.mem_of_getElem? (l := tables_1_4) (i := 102) rfl)
set_option maxRecDepth 100000 in
theorem ki_X11_setShare : Cond.initialized yX11_setShare.cls ∈ lw_tbl := tin1 (List.mem_of_getElem? (l := tables_1_1) (i := 1) rfl)
set_option maxRecDepth 100000 in
theorem kc_X11_settle : Cond.code yX11_settle cX11_settle 3 (some .int) ∈ lw_tbl := tin4 (List.mem_of_getElem? (l := tables_1_4) (i := 39) rfl)
set_option maxRecDepth 100000 in
theorem ki_X11_settle : Cond.initialized yX11_settle.cls ∈ lw_tbl := tin1 (List.mem_of_getElem? (l := tables_1_1) (i := 1) rfl)
set_option maxRecDepth 100000 in
theorem kc_X11_share : Cond.code yX11_share cX11_share 2 (some .int) ∈ lw_tbl := tin6 (List.mem_of_getElem? (l := tables_1_6) (i := 171) rfl)
set_option maxRecDepth 100000 in
theorem ki_X11_share : Cond.initialized yX11_share.cls ∈ lw_tbl := tin1 (List.mem_of_getElem? (l := tables_1_1) (i := 1) rfl)
set_option maxRecDepth 100000 in
theorem kc_X11_takeBack : Cond.code yX11_takeBack cX11_takeBack 2 (some .int) ∈ lw_tbl := tin4 (List.mem_of_getElem? (l := tables_1_4) (i := 129) rfl)
set_option maxRecDepth 100000 in
theorem ki_X11_takeBack : Cond.initialized yX11_takeBack.cls ∈ lw_tbl := tin1 (List.mem_of_getElem? (l := tables_1_1) (i := 1) rfl)
set_option maxRecDepth 100000 in
theorem kc_X11_threshold : Cond.code yX11_threshold cX11_threshold 1 (some .int) ∈ lw_tbl := tin2 (List.mem_of_getElem? (l := tables_1_2) (i := 145) rfl)
set_option maxRecDepth 100000 in
theorem ki_X11_threshold : Cond.initialized yX11_threshold.cls ∈ lw_tbl := tin1 (List.mem_of_getElem? (l := tables_1_1) (i := 1) rfl)
set_option maxRecDepth 100000 in
theorem kc_X11_toldSecret : Cond.code yX11_toldSecret cX11_toldSecret 1 (some .int) ∈ lw_tbl := tin3 (List.mem_of_getElem? (l := tables_1_3) (i := 52) rfl)
set_option maxRecDepth 100000 in
theorem ki_X11_toldSecret : Cond.initialized yX11_toldSecret.cls ∈ lw_tbl := tin1 (List.mem_of_getElem? (l := tables_1_1) (i := 1) rfl)
set_option maxRecDepth 100000 in
theorem kc_X11_toldSecretByElimination : Cond.code yX11_toldSecretByElimination cX11_toldSecretByElimination 1 (some .int) ∈ lw_tbl := tin6 (List.mem_of_getElem? (l := tables_1_6) (i := 215) rfl)
set_option maxRecDepth 100000 in
theorem ki_X11_toldSecretByElimination : Cond.initialized yX11_toldSecretByElimination.cls ∈ lw_tbl := tin1 (List.mem_of_getElem? (l := tables_1_1) (i := 1) rfl)
set_option maxRecDepth 100000 in
theorem kc_X11_toldValue : Cond.code yX11_toldValue cX11_toldValue 2 (some .int) ∈ lw_tbl := tin7 (List.mem_of_getElem? (l := tables_1_7) (i := 6) rfl)
set_option maxRecDepth 100000 in
theorem ki_X11_toldValue : Cond.initialized yX11_toldValue.cls ∈ lw_tbl := tin1 (List.mem_of_getElem? (l := tables_1_1) (i := 1) rfl)
set_option maxRecDepth 100000 in
theorem kc_X11_turnGuard : Cond.code yX11_turnGuard cX11_turnGuard 2 (some .boolean) ∈ lw_tbl := tin4 (List.mem_of_getElem? (l := tables_1_4) (i := 209) rfl)
set_option maxRecDepth 100000 in
theorem ki_X11_turnGuard : Cond.initialized yX11_turnGuard.cls ∈ lw_tbl := tin1 (List.mem_of_getElem? (l := tables_1_1) (i := 1) rfl)
set_option maxRecDepth 100000 in
theorem kc_X11_undo : Cond.code yX11_undo cX11_undo 1 (some .int) ∈ lw_tbl := tin7 (List.mem_of_getElem? (l := tables_1_7) (i := 151) rfl)
set_option maxRecDepth 100000 in
theorem ki_X11_undo : Cond.initialized yX11_undo.cls ∈ lw_tbl := tin1 (List.mem_of_getElem? (l := tables_1_1) (i := 1) rfl)
set_option maxRecDepth 100000 in
theorem kc_X11_undoCount : Cond.code yX11_undoCount cX11_undoCount 1 (some .int) ∈ lw_tbl := tin2 (List.mem_of_getElem? (l := tables_1_2) (i := 130) rfl)
set_option maxRecDepth 100000 in
theorem ki_X11_undoCount : Cond.initialized yX11_undoCount.cls ∈ lw_tbl := tin1 (List.mem_of_getElem? (l := tables_1_1) (i := 1) rfl)
set_option maxRecDepth 100000 in
theorem kc_X11_visitByHours : Cond.code yX11_visitByHours cX11_visitByHours 3 (some .int) ∈ lw_tbl := tin3 (List.mem_of_getElem? (l := tables_1_3) (i := 133) rfl)
set_option maxRecDepth 100000 in
theorem ki_X11_visitByHours : Cond.initialized yX11_visitByHours.cls ∈ lw_tbl := tin1 (List.mem_of_getElem? (l := tables_1_1) (i := 1) rfl)
set_option maxRecDepth 100000 in
theorem kc_X11_zoneByNoise : Cond.code yX11_zoneByNoise cX11_zoneByNoise 2 (some .int) ∈ lw_tbl := tin7 (List.mem_of_getElem? (l := tables_1_7) (i := 51) rfl)
set_option maxRecDepth 100000 in
theorem ki_X11_zoneByNoise : Cond.initialized yX11_zoneByNoise.cls ∈ lw_tbl := tin1 (List.mem_of_getElem? (l := tables_1_1) (i := 1) rfl)
set_option maxRecDepth 100000 in
theorem kc_X11_zoneOf : Cond.code yX11_zoneOf cX11_zoneOf 2 (some .int) ∈ lw_tbl := tin3 (List.mem_of_getElem? (l := tables_1_3) (i := 206) rfl)
set_option maxRecDepth 100000 in
theorem ki_X11_zoneOf : Cond.initialized yX11_zoneOf.cls ∈ lw_tbl := tin1 (List.mem_of_getElem? (l := tables_1_1) (i := 1) rfl)
set_option maxRecDepth 100000 in
theorem kc_X1_beginHour : Cond.code yX1_beginHour cX1_beginHour 3 (none) ∈ lw_tbl := tin3 (List.mem_of_getElem? (l := tables_1_3) (i := 148) rfl)
set_option maxRecDepth 100000 in
theorem ki_X1_beginHour : Cond.initialized yX1_beginHour.cls ∈ lw_tbl := tin1 (List.mem_of_getElem? (l := tables_1_1) (i := 5) rfl)
set_option maxRecDepth 100000 in
theorem kc_X1_comesBefore : Cond.code yX1_comesBefore cX1_comesBefore 3 (some .boolean) ∈ lw_tbl := tin7 (List.mem_of_getElem? (l := tables_1_7) (i := 64) rfl)
set_option maxRecDepth 100000 in
theorem ki_X1_comesBefore : Cond.initialized yX1_comesBefore.cls ∈ lw_tbl := tin1 (List.mem_of_getElem? (l := tables_1_1) (i := 5) rfl)
set_option maxRecDepth 100000 in
theorem kc_X1_copyFrom : Cond.code yX1_copyFrom cX1_copyFrom 3 (none) ∈ lw_tbl := tin3 (List.mem_of_getElem? (l := tables_1_3) (i := 137) rfl)
set_option maxRecDepth 100000 in
theorem ki_X1_copyFrom : Cond.initialized yX1_copyFrom.cls ∈ lw_tbl := tin1 (List.mem_of_getElem? (l := tables_1_1) (i := 5) rfl)
set_option maxRecDepth 100000 in
theorem kc_X1_hasGuard : Cond.code yX1_hasGuard cX1_hasGuard 2 (some .boolean) ∈ lw_tbl := tin3 (List.mem_of_getElem? (l := tables_1_3) (i := 214) rfl)
set_option maxRecDepth 100000 in
theorem ki_X1_hasGuard : Cond.initialized yX1_hasGuard.cls ∈ lw_tbl := tin1 (List.mem_of_getElem? (l := tables_1_1) (i := 5) rfl)
set_option maxRecDepth 100000 in
theorem kc_X1_hasGuardBeside : Cond.code yX1_hasGuardBeside cX1_hasGuardBeside 2 (some .boolean) ∈ lw_tbl := tin3 (List.mem_of_getElem? (l := tables_1_3) (i := 166) rfl)
set_option maxRecDepth 100000 in
theorem ki_X1_hasGuardBeside : Cond.initialized yX1_hasGuardBeside.cls ∈ lw_tbl := tin1 (List.mem_of_getElem? (l := tables_1_1) (i := 5) rfl)
set_option maxRecDepth 100000 in
theorem kc_X1_hasGuardIn : Cond.code yX1_hasGuardIn cX1_hasGuardIn 3 (some .boolean) ∈ lw_tbl := tin3 (List.mem_of_getElem? (l := tables_1_3) (i := 144) rfl)
set_option maxRecDepth 100000 in
theorem ki_X1_hasGuardIn : Cond.initialized yX1_hasGuardIn.cls ∈ lw_tbl := tin1 (List.mem_of_getElem? (l := tables_1_1) (i := 5) rfl)
set_option maxRecDepth 100000 in
theorem kc_X1_hasZone : Cond.code yX1_hasZone cX1_hasZone 1 (some .boolean) ∈ lw_tbl := tin3 (List.mem_of_getElem? (l := tables_1_3) (i := 108) rfl)
set_option maxRecDepth 100000 in
theorem ki_X1_hasZone : Cond.initialized yX1_hasZone.cls ∈ lw_tbl := tin1 (List.mem_of_getElem? (l := tables_1_1) (i := 5) rfl)
set_option maxRecDepth 100000 in
theorem kc_X1_passOneHour : Cond.code yX1_passOneHour cX1_passOneHour 3 (some .int) ∈ lw_tbl := tin3 (List.mem_of_getElem? (l := tables_1_3) (i := 160) rfl)
set_option maxRecDepth 100000 in
theorem ki_X1_passOneHour : Cond.initialized yX1_passOneHour.cls ∈ lw_tbl := tin1 (List.mem_of_getElem? (l := tables_1_1) (i := 5) rfl)
set_option maxRecDepth 100000 in
theorem kc_X1_placeGuard : Cond.code yX1_placeGuard cX1_placeGuard 5 (some .int) ∈ lw_tbl := tin4 (List.mem_of_getElem? (l := tables_1_4) (i := 202) rfl)
set_option maxRecDepth 100000 in
theorem ki_X1_placeGuard : Cond.initialized yX1_placeGuard.cls ∈ lw_tbl := tin1 (List.mem_of_getElem? (l := tables_1_1) (i := 5) rfl)
set_option maxRecDepth 100000 in
theorem kc_X1_rankOf : Cond.code yX1_rankOf cX1_rankOf 4 (some .int) ∈ lw_tbl := tin7 (List.mem_of_getElem? (l := tables_1_7) (i := 60) rfl)
set_option maxRecDepth 100000 in
theorem ki_X1_rankOf : Cond.initialized yX1_rankOf.cls ∈ lw_tbl := tin1 (List.mem_of_getElem? (l := tables_1_1) (i := 5) rfl)
set_option maxRecDepth 100000 in
theorem kc_X1_sumOf : Cond.code yX1_sumOf cX1_sumOf 6 (some .int) ∈ lw_tbl := tin7 (List.mem_of_getElem? (l := tables_1_7) (i := 122) rfl)
set_option maxRecDepth 100000 in
theorem ki_X1_sumOf : Cond.initialized yX1_sumOf.cls ∈ lw_tbl := tin1 (List.mem_of_getElem? (l := tables_1_1) (i := 5) rfl)
set_option maxRecDepth 100000 in
theorem kc_X1_visitByRemainders : Cond.code yX1_visitByRemainders cX1_visitByRemainders 4 (some .int) ∈ lw_tbl := tin7 (List.mem_of_getElem? (l := tables_1_7) (i := 83) rfl)
set_option maxRecDepth 100000 in
theorem ki_X1_visitByRemainders : Cond.initialized yX1_visitByRemainders.cls ∈ lw_tbl := tin1 (List.mem_of_getElem? (l := tables_1_1) (i := 5) rfl)
set_option maxRecDepth 100000 in
theorem kc_X1_visitOf : Cond.code yX1_visitOf cX1_visitOf 5 (some .int) ∈ lw_tbl := tin7 (List.mem_of_getElem? (l := tables_1_7) (i := 87) rfl)
set_option maxRecDepth 100000 in
theorem ki_X1_visitOf : Cond.initialized yX1_visitOf.cls ∈ lw_tbl := tin1 (List.mem_of_getElem? (l := tables_1_1) (i := 5) rfl)
set_option maxRecDepth 100000 in
theorem kc_X1_zoneAtRank : Cond.code yX1_zoneAtRank cX1_zoneAtRank 3 (some .int) ∈ lw_tbl := tin7 (List.mem_of_getElem? (l := tables_1_7) (i := 56) rfl)
set_option maxRecDepth 100000 in
theorem ki_X1_zoneAtRank : Cond.initialized yX1_zoneAtRank.cls ∈ lw_tbl := tin1 (List.mem_of_getElem? (l := tables_1_1) (i := 5) rfl)
set_option maxRecDepth 100000 in
theorem kc_X2_addNumber : Cond.code yX2_addNumber cX2_addNumber 2 (none) ∈ lw_tbl := tin6 (List.mem_of_getElem? (l := tables_1_6) (i := 103) rfl)
set_option maxRecDepth 100000 in
theorem ki_X2_addNumber : Cond.initialized yX2_addNumber.cls ∈ lw_tbl := tin1 (List.mem_of_getElem? (l := tables_1_1) (i := 9) rfl)
set_option maxRecDepth 100000 in
theorem kc_X2_append : Cond.code yX2_append cX2_append 2 (some .int) ∈ lw_tbl := tin6 (List.mem_of_getElem? (l := tables_1_6) (i := 63) rfl)
set_option maxRecDepth 100000 in
theorem ki_X2_append : Cond.initialized yX2_append.cls ∈ lw_tbl := tin1 (List.mem_of_getElem? (l := tables_1_1) (i := 9) rfl)
set_option maxRecDepth 100000 in
theorem kc_X2_clear : Cond.code yX2_clear cX2_clear 1 (none) ∈ lw_tbl := tin6 (List.mem_of_getElem? (l := tables_1_6) (i := 123) rfl)
set_option maxRecDepth 100000 in
theorem ki_X2_clear : Cond.initialized yX2_clear.cls ∈ lw_tbl := tin1 (List.mem_of_getElem? (l := tables_1_1) (i := 9) rfl)
set_option maxRecDepth 100000 in
theorem kc_X2_matchingLetters : Cond.code yX2_matchingLetters cX2_matchingLetters 3 (some .int) ∈ lw_tbl := tin6 (List.mem_of_getElem? (l := tables_1_6) (i := 88) rfl)
set_option maxRecDepth 100000 in
theorem ki_X2_matchingLetters : Cond.initialized yX2_matchingLetters.cls ∈ lw_tbl := tin1 (List.mem_of_getElem? (l := tables_1_1) (i := 9) rfl)
set_option maxRecDepth 100000 in
theorem kc_X2_parse : Cond.code yX2_parse cX2_parse 2 (some .int) ∈ lw_tbl := tin6 (List.mem_of_getElem? (l := tables_1_6) (i := 74) rfl)
set_option maxRecDepth 100000 in
theorem ki_X2_parse : Cond.initialized yX2_parse.cls ∈ lw_tbl := tin1 (List.mem_of_getElem? (l := tables_1_1) (i := 9) rfl)
set_option maxRecDepth 100000 in
theorem kc_X2_peek : Cond.code yX2_peek cX2_peek 1 (some .int) ∈ lw_tbl := tin6 (List.mem_of_getElem? (l := tables_1_6) (i := 99) rfl)
set_option maxRecDepth 100000 in
theorem ki_X2_peek : Cond.initialized yX2_peek.cls ∈ lw_tbl := tin1 (List.mem_of_getElem? (l := tables_1_1) (i := 9) rfl)
set_option maxRecDepth 100000 in
theorem kc_X2_readBlank : Cond.code yX2_readBlank cX2_readBlank 1 (some .boolean) ∈ lw_tbl := tin6 (List.mem_of_getElem? (l := tables_1_6) (i := 119) rfl)
set_option maxRecDepth 100000 in
theorem ki_X2_readBlank : Cond.initialized yX2_readBlank.cls ∈ lw_tbl := tin1 (List.mem_of_getElem? (l := tables_1_1) (i := 9) rfl)
set_option maxRecDepth 100000 in
theorem kc_X2_readCommand : Cond.code yX2_readCommand cX2_readCommand 2 (some .boolean) ∈ lw_tbl := tin6 (List.mem_of_getElem? (l := tables_1_6) (i := 78) rfl)
set_option maxRecDepth 100000 in
theorem ki_X2_readCommand : Cond.initialized yX2_readCommand.cls ∈ lw_tbl := tin1 (List.mem_of_getElem? (l := tables_1_1) (i := 9) rfl)
set_option maxRecDepth 100000 in
theorem kc_X2_readDirection : Cond.code yX2_readDirection cX2_readDirection 2 (some .boolean) ∈ lw_tbl := tin6 (List.mem_of_getElem? (l := tables_1_6) (i := 115) rfl)
set_option maxRecDepth 100000 in
theorem ki_X2_readDirection : Cond.initialized yX2_readDirection.cls ∈ lw_tbl := tin1 (List.mem_of_getElem? (l := tables_1_1) (i := 9) rfl)
set_option maxRecDepth 100000 in
theorem kc_X2_readForm : Cond.code yX2_readForm cX2_readForm 4 (some .boolean) ∈ lw_tbl := tin6 (List.mem_of_getElem? (l := tables_1_6) (i := 95) rfl)
set_option maxRecDepth 100000 in
theorem ki_X2_readForm : Cond.initialized yX2_readForm.cls ∈ lw_tbl := tin1 (List.mem_of_getElem? (l := tables_1_1) (i := 9) rfl)
set_option maxRecDepth 100000 in
theorem kc_X2_readNumber : Cond.code yX2_readNumber cX2_readNumber 4 (some .boolean) ∈ lw_tbl := tin6 (List.mem_of_getElem? (l := tables_1_6) (i := 111) rfl)
set_option maxRecDepth 100000 in
theorem ki_X2_readNumber : Cond.initialized yX2_readNumber.cls ∈ lw_tbl := tin1 (List.mem_of_getElem? (l := tables_1_1) (i := 9) rfl)
set_option maxRecDepth 100000 in
theorem kc_X2_readPart : Cond.code yX2_readPart cX2_readPart 2 (some .boolean) ∈ lw_tbl := tin6 (List.mem_of_getElem? (l := tables_1_6) (i := 107) rfl)
set_option maxRecDepth 100000 in
theorem ki_X2_readPart : Cond.initialized yX2_readPart.cls ∈ lw_tbl := tin1 (List.mem_of_getElem? (l := tables_1_1) (i := 9) rfl)
set_option maxRecDepth 100000 in
theorem kc_X2_readWord : Cond.code yX2_readWord cX2_readWord 7 (some (.object "ShareVault$Word")) ∈ lw_tbl := tin6 (List.mem_of_getElem? (l := tables_1_6) (i := 82) rfl)
set_option maxRecDepth 100000 in
theorem ki_X2_readWord : Cond.initialized yX2_readWord.cls ∈ lw_tbl := tin1 (List.mem_of_getElem? (l := tables_1_1) (i := 9) rfl)
set_option maxRecDepth 100000 in
theorem kc_X3_copyFrom : Cond.code yX3_copyFrom cX3_copyFrom 2 (none) ∈ lw_tbl := tin4 (List.mem_of_getElem? (l := tables_1_4) (i := 20) rfl)
set_option maxRecDepth 100000 in
theorem ki_X3_copyFrom : Cond.initialized yX3_copyFrom.cls ∈ lw_tbl := tin1 (List.mem_of_getElem? (l := tables_1_1) (i := 4) rfl)
set_option maxRecDepth 100000 in
theorem kc_X3_countFailure : Cond.code yX3_countFailure cX3_countFailure 1 (none) ∈ lw_tbl := tin4 (List.mem_of_getElem? (l := tables_1_4) (i := 167) rfl)
set_option maxRecDepth 100000 in
theorem ki_X3_countFailure : Cond.initialized yX3_countFailure.cls ∈ lw_tbl := tin1 (List.mem_of_getElem? (l := tables_1_1) (i := 4) rfl)
set_option maxRecDepth 100000 in
theorem kc_X3_passOneHour : Cond.code yX3_passOneHour cX3_passOneHour 1 (none) ∈ lw_tbl := tin5 (List.mem_of_getElem? (l := tables_1_5) (i := 6) rfl)
set_option maxRecDepth 100000 in
theorem ki_X3_passOneHour : Cond.initialized yX3_passOneHour.cls ∈ lw_tbl := tin1 (List.mem_of_getElem? (l := tables_1_1) (i := 4) rfl)
set_option maxRecDepth 100000 in
theorem kc_X3_shutAnew : Cond.code yX3_shutAnew cX3_shutAnew 1 (none) ∈ lw_tbl := tin4 (List.mem_of_getElem? (l := tables_1_4) (i := 95) rfl)
set_option maxRecDepth 100000 in
theorem ki_X3_shutAnew : Cond.initialized yX3_shutAnew.cls ∈ lw_tbl := tin1 (List.mem_of_getElem? (l := tables_1_1) (i := 4) rfl)
set_option maxRecDepth 100000 in
theorem kc_X3_swingOpen : Cond.code yX3_swingOpen cX3_swingOpen 1 (none) ∈ lw_tbl := tin4 (List.mem_of_getElem? (l := tables_1_4) (i := 163) rfl)
set_option maxRecDepth 100000 in
theorem ki_X3_swingOpen : Cond.initialized yX3_swingOpen.cls ∈ lw_tbl := tin1 (List.mem_of_getElem? (l := tables_1_1) (i := 4) rfl)
set_option maxRecDepth 100000 in
theorem kc_X4_clear : Cond.code yX4_clear cX4_clear 1 (none) ∈ lw_tbl := tin7 (List.mem_of_getElem? (l := tables_1_7) (i := 168) rfl)
set_option maxRecDepth 100000 in
theorem ki_X4_clear : Cond.initialized yX4_clear.cls ∈ lw_tbl := tin1 (List.mem_of_getElem? (l := tables_1_1) (i := 7) rfl)
set_option maxRecDepth 100000 in
theorem kc_X4_keep : Cond.code yX4_keep cX4_keep 1 (none) ∈ lw_tbl := tin4 (List.mem_of_getElem? (l := tables_1_4) (i := 70) rfl)
set_option maxRecDepth 100000 in
theorem ki_X4_keep : Cond.initialized yX4_keep.cls ∈ lw_tbl := tin1 (List.mem_of_getElem? (l := tables_1_1) (i := 7) rfl)
set_option maxRecDepth 100000 in
theorem kc_X4_prepare : Cond.code yX4_prepare cX4_prepare 2 (none) ∈ lw_tbl := tin4 (List.mem_of_getElem? (l := tables_1_4) (i := 7) rfl)
set_option maxRecDepth 100000 in
theorem ki_X4_prepare : Cond.initialized yX4_prepare.cls ∈ lw_tbl := tin1 (List.mem_of_getElem? (l := tables_1_1) (i := 7) rfl)
set_option maxRecDepth 100000 in
theorem kc_X4_prepared : Cond.code yX4_prepared cX4_prepared 1 (some (.object "ShareVault$State")) ∈ lw_tbl := tin6 (List.mem_of_getElem? (l := tables_1_6) (i := 155) rfl)
set_option maxRecDepth 100000 in
theorem ki_X4_prepared : Cond.initialized yX4_prepared.cls ∈ lw_tbl := tin1 (List.mem_of_getElem? (l := tables_1_1) (i := 7) rfl)
set_option maxRecDepth 100000 in
theorem kc_X4_takeLatest : Cond.code yX4_takeLatest cX4_takeLatest 1 (some (.object "ShareVault$State")) ∈ lw_tbl := tin7 (List.mem_of_getElem? (l := tables_1_7) (i := 156) rfl)
set_option maxRecDepth 100000 in
theorem ki_X4_takeLatest : Cond.initialized yX4_takeLatest.cls ∈ lw_tbl := tin1 (List.mem_of_getElem? (l := tables_1_1) (i := 7) rfl)
set_option maxRecDepth 100000 in
theorem kc_X5_copyFrom : Cond.code yX5_copyFrom cX5_copyFrom 2 (none) ∈ lw_tbl := tin4 (List.mem_of_getElem? (l := tables_1_4) (i := 25) rfl)
set_option maxRecDepth 100000 in
theorem ki_X5_copyFrom : Cond.initialized yX5_copyFrom.cls ∈ lw_tbl := tin1 (List.mem_of_getElem? (l := tables_1_1) (i := 6) rfl)
set_option maxRecDepth 100000 in
theorem kc_X5_dropOldest : Cond.code yX5_dropOldest cX5_dropOldest 1 (none) ∈ lw_tbl := tin4 (List.mem_of_getElem? (l := tables_1_4) (i := 175) rfl)
set_option maxRecDepth 100000 in
theorem ki_X5_dropOldest : Cond.initialized yX5_dropOldest.cls ∈ lw_tbl := tin1 (List.mem_of_getElem? (l := tables_1_1) (i := 6) rfl)
set_option maxRecDepth 100000 in
theorem kc_X5_enter : Cond.code yX5_enter cX5_enter 4 (none) ∈ lw_tbl := tin4 (List.mem_of_getElem? (l := tables_1_4) (i := 171) rfl)
set_option maxRecDepth 100000 in
theorem ki_X5_enter : Cond.initialized yX5_enter.cls ∈ lw_tbl := tin1 (List.mem_of_getElem? (l := tables_1_1) (i := 6) rfl)
set_option maxRecDepth 100000 in
theorem kc_X6_allAgree : Cond.code yX6_allAgree cX6_allAgree 1 (some .boolean) ∈ lw_tbl := tin3 (List.mem_of_getElem? (l := tables_1_3) (i := 86) rfl)
set_option maxRecDepth 100000 in
theorem ki_X6_allAgree : Cond.initialized yX6_allAgree.cls ∈ lw_tbl := tin1 (List.mem_of_getElem? (l := tables_1_1) (i := 3) rfl)
set_option maxRecDepth 100000 in
theorem kc_X6_areEnough : Cond.code yX6_areEnough cX6_areEnough 1 (some .boolean) ∈ lw_tbl := tin3 (List.mem_of_getElem? (l := tables_1_3) (i := 60) rfl)
set_option maxRecDepth 100000 in
theorem ki_X6_areEnough : Cond.initialized yX6_areEnough.cls ∈ lw_tbl := tin1 (List.mem_of_getElem? (l := tables_1_1) (i := 3) rfl)
set_option maxRecDepth 100000 in
theorem kc_X6_copyFrom : Cond.code yX6_copyFrom cX6_copyFrom 2 (none) ∈ lw_tbl := tin4 (List.mem_of_getElem? (l := tables_1_4) (i := 15) rfl)
set_option maxRecDepth 100000 in
theorem ki_X6_copyFrom : Cond.initialized yX6_copyFrom.cls ∈ lw_tbl := tin1 (List.mem_of_getElem? (l := tables_1_1) (i := 3) rfl)
set_option maxRecDepth 100000 in
theorem kc_X6_correctShare : Cond.code yX6_correctShare cX6_correctShare 2 (some .int) ∈ lw_tbl := tin3 (List.mem_of_getElem? (l := tables_1_3) (i := 229) rfl)
set_option maxRecDepth 100000 in
theorem ki_X6_correctShare : Cond.initialized yX6_correctShare.cls ∈ lw_tbl := tin1 (List.mem_of_getElem? (l := tables_1_1) (i := 3) rfl)
set_option maxRecDepth 100000 in
theorem kc_X6_hasHolder : Cond.code yX6_hasHolder cX6_hasHolder 2 (some .boolean) ∈ lw_tbl := tin3 (List.mem_of_getElem? (l := tables_1_3) (i := 20) rfl)
set_option maxRecDepth 100000 in
theorem ki_X6_hasHolder : Cond.initialized yX6_hasHolder.cls ∈ lw_tbl := tin1 (List.mem_of_getElem? (l := tables_1_1) (i := 3) rfl)
set_option maxRecDepth 100000 in
theorem kc_X6_hide : Cond.code yX6_hide cX6_hide 3 (some .int) ∈ lw_tbl := tin4 (List.mem_of_getElem? (l := tables_1_4) (i := 137) rfl)
set_option maxRecDepth 100000 in
theorem ki_X6_hide : Cond.initialized yX6_hide.cls ∈ lw_tbl := tin1 (List.mem_of_getElem? (l := tables_1_1) (i := 3) rfl)
set_option maxRecDepth 100000 in
theorem kc_X6_isOneCurve : Cond.code yX6_isOneCurve cX6_isOneCurve 5 (some .boolean) ∈ lw_tbl := tin3 (List.mem_of_getElem? (l := tables_1_3) (i := 90) rfl)
set_option maxRecDepth 100000 in
theorem ki_X6_isOneCurve : Cond.initialized yX6_isOneCurve.cls ∈ lw_tbl := tin1 (List.mem_of_getElem? (l := tables_1_1) (i := 3) rfl)
set_option maxRecDepth 100000 in
theorem kc_X6_isResidue : Cond.code yX6_isResidue cX6_isResidue 1 (some .boolean) ∈ lw_tbl := tin4 (List.mem_of_getElem? (l := tables_1_4) (i := 87) rfl)
set_option maxRecDepth 100000 in
theorem ki_X6_isResidue : Cond.initialized yX6_isResidue.cls ∈ lw_tbl := tin1 (List.mem_of_getElem? (l := tables_1_1) (i := 3) rfl)
set_option maxRecDepth 100000 in
theorem kc_X6_join : Cond.code yX6_join cX6_join 2 (some .int) ∈ lw_tbl := tin4 (List.mem_of_getElem? (l := tables_1_4) (i := 34) rfl)
set_option maxRecDepth 100000 in
theorem ki_X6_join : Cond.initialized yX6_join.cls ∈ lw_tbl := tin1 (List.mem_of_getElem? (l := tables_1_1) (i := 3) rfl)
set_option maxRecDepth 100000 in
theorem kc_X6_placeOf : Cond.code yX6_placeOf cX6_placeOf 3 (some .int) ∈ lw_tbl := tin3 (List.mem_of_getElem? (l := tables_1_3) (i := 37) rfl)
set_option maxRecDepth 100000 in
theorem ki_X6_placeOf : Cond.initialized yX6_placeOf.cls ∈ lw_tbl := tin1 (List.mem_of_getElem? (l := tables_1_1) (i := 3) rfl)
set_option maxRecDepth 100000 in
theorem kc_X6_positionOf : Cond.code yX6_positionOf cX6_positionOf 1 (some .int) ∈ lw_tbl := tin3 (List.mem_of_getElem? (l := tables_1_3) (i := 93) rfl)
set_option maxRecDepth 100000 in
theorem ki_X6_positionOf : Cond.initialized yX6_positionOf.cls ∈ lw_tbl := tin1 (List.mem_of_getElem? (l := tables_1_1) (i := 3) rfl)
set_option maxRecDepth 100000 in
theorem kc_X6_quotientsOf : Cond.code yX6_quotientsOf cX6_quotientsOf 8 (some .int) ∈ lw_tbl := tin3 (List.mem_of_getElem? (l := tables_1_3) (i := 73) rfl)
set_option maxRecDepth 100000 in
theorem ki_X6_quotientsOf : Cond.initialized yX6_quotientsOf.cls ∈ lw_tbl := tin1 (List.mem_of_getElem? (l := tables_1_1) (i := 3) rfl)
set_option maxRecDepth 100000 in
theorem kc_X6_sealWith : Cond.code yX6_sealWith cX6_sealWith 6 (none) ∈ lw_tbl := tin4 (List.mem_of_getElem? (l := tables_1_4) (i := 91) rfl)
set_option maxRecDepth 100000 in
theorem ki_X6_sealWith : Cond.initialized yX6_sealWith.cls ∈ lw_tbl := tin1 (List.mem_of_getElem? (l := tables_1_1) (i := 3) rfl)
set_option maxRecDepth 100000 in
theorem kc_X6_show : Cond.code yX6_show cX6_show 2 (some .int) ∈ lw_tbl := tin4 (List.mem_of_getElem? (l := tables_1_4) (i := 122) rfl)
set_option maxRecDepth 100000 in
theorem ki_X6_show : Cond.initialized yX6_show.cls ∈ lw_tbl := tin1 (List.mem_of_getElem? (l := tables_1_1) (i := 3) rfl)
set_option maxRecDepth 100000 in
theorem kc_X6_tellTheSecret : Cond.code yX6_tellTheSecret cX6_tellTheSecret 1 (some .boolean) ∈ lw_tbl := tin4 (List.mem_of_getElem? (l := tables_1_4) (i := 158) rfl)
set_option maxRecDepth 100000 in
theorem ki_X6_tellTheSecret : Cond.initialized yX6_tellTheSecret.cls ∈ lw_tbl := tin1 (List.mem_of_getElem? (l := tables_1_1) (i := 3) rfl)
set_option maxRecDepth 100000 in
theorem kc_X6_toldAt : Cond.code yX6_toldAt cX6_toldAt 2 (some .int) ∈ lw_tbl := tin3 (List.mem_of_getElem? (l := tables_1_3) (i := 65) rfl)
set_option maxRecDepth 100000 in
theorem ki_X6_toldAt : Cond.initialized yX6_toldAt.cls ∈ lw_tbl := tin1 (List.mem_of_getElem? (l := tables_1_1) (i := 3) rfl)
set_option maxRecDepth 100000 in
theorem kc_X6_valueOn : Cond.code yX6_valueOn cX6_valueOn 4 (some .int) ∈ lw_tbl := tin3 (List.mem_of_getElem? (l := tables_1_3) (i := 232) rfl)
set_option maxRecDepth 100000 in
theorem ki_X6_valueOn : Cond.initialized yX6_valueOn.cls ∈ lw_tbl := tin1 (List.mem_of_getElem? (l := tables_1_1) (i := 3) rfl)
set_option maxRecDepth 100000 in
theorem kc_X6_valueThrough : Cond.code yX6_valueThrough cX6_valueThrough 5 (some .int) ∈ lw_tbl := tin3 (List.mem_of_getElem? (l := tables_1_3) (i := 69) rfl)
set_option maxRecDepth 100000 in
theorem ki_X6_valueThrough : Cond.initialized yX6_valueThrough.cls ∈ lw_tbl := tin1 (List.mem_of_getElem? (l := tables_1_1) (i := 3) rfl)
set_option maxRecDepth 100000 in
theorem kc_X8_choose : Cond.code yX8_choose cX8_choose 5 (none) ∈ lw_tbl := tin7 (List.mem_of_getElem? (l := tables_1_7) (i := 23) rfl)
set_option maxRecDepth 100000 in
theorem ki_X8_choose : Cond.initialized yX8_choose.cls ∈ lw_tbl := tin1 (List.mem_of_getElem? (l := tables_1_1) (i := 8) rfl)
set_option maxRecDepth 100000 in
theorem kc_X8_countOnCurve : Cond.code yX8_countOnCurve cX8_countOnCurve 5 (some .int) ∈ lw_tbl := tin7 (List.mem_of_getElem? (l := tables_1_7) (i := 27) rfl)
set_option maxRecDepth 100000 in
theorem ki_X8_countOnCurve : Cond.initialized yX8_countOnCurve.cls ∈ lw_tbl := tin1 (List.mem_of_getElem? (l := tables_1_1) (i := 8) rfl)
set_option maxRecDepth 100000 in
theorem kc_X8_eliminate : Cond.code yX8_eliminate cX8_eliminate 6 (none) ∈ lw_tbl := tin6 (List.mem_of_getElem? (l := tables_1_6) (i := 232) rfl)
set_option maxRecDepth 100000 in
theorem ki_X8_eliminate : Cond.initialized yX8_eliminate.cls ∈ lw_tbl := tin1 (List.mem_of_getElem? (l := tables_1_1) (i := 8) rfl)
set_option maxRecDepth 100000 in
theorem kc_X8_fit : Cond.code yX8_fit cX8_fit 5 (none) ∈ lw_tbl := tin6 (List.mem_of_getElem? (l := tables_1_6) (i := 223) rfl)
set_option maxRecDepth 100000 in
theorem ki_X8_fit : Cond.initialized yX8_fit.cls ∈ lw_tbl := tin1 (List.mem_of_getElem? (l := tables_1_1) (i := 8) rfl)
set_option maxRecDepth 100000 in
theorem kc_X8_mostInSets : Cond.code yX8_mostInSets cX8_mostInSets 5 (some .int) ∈ lw_tbl := tin7 (List.mem_of_getElem? (l := tables_1_7) (i := 40) rfl)
set_option maxRecDepth 100000 in
theorem ki_X8_mostInSets : Cond.initialized yX8_mostInSets.cls ∈ lw_tbl := tin1 (List.mem_of_getElem? (l := tables_1_1) (i := 8) rfl)
set_option maxRecDepth 100000 in
theorem kc_X8_mostOnCurves : Cond.code yX8_mostOnCurves cX8_mostOnCurves 4 (some .int) ∈ lw_tbl := tin7 (List.mem_of_getElem? (l := tables_1_7) (i := 18) rfl)
set_option maxRecDepth 100000 in
theorem ki_X8_mostOnCurves : Cond.initialized yX8_mostOnCurves.cls ∈ lw_tbl := tin1 (List.mem_of_getElem? (l := tables_1_1) (i := 8) rfl)
set_option maxRecDepth 100000 in
theorem kc_X8_secretOf : Cond.code yX8_secretOf cX8_secretOf 2 (some .int) ∈ lw_tbl := tin6 (List.mem_of_getElem? (l := tables_1_6) (i := 219) rfl)
set_option maxRecDepth 100000 in
theorem ki_X8_secretOf : Cond.initialized yX8_secretOf.cls ∈ lw_tbl := tin1 (List.mem_of_getElem? (l := tables_1_1) (i := 8) rfl)
set_option maxRecDepth 100000 in
theorem kc_X8_setEquation : Cond.code yX8_setEquation cX8_setEquation 7 (none) ∈ lw_tbl := tin6 (List.mem_of_getElem? (l := tables_1_6) (i := 227) rfl)
set_option maxRecDepth 100000 in
theorem ki_X8_setEquation : Cond.initialized yX8_setEquation.cls ∈ lw_tbl := tin1 (List.mem_of_getElem? (l := tables_1_1) (i := 8) rfl)
set_option maxRecDepth 100000 in
theorem kc_X8_subtract : Cond.code yX8_subtract cX8_subtract 6 (none) ∈ lw_tbl := tin6 (List.mem_of_getElem? (l := tables_1_6) (i := 236) rfl)
set_option maxRecDepth 100000 in
theorem ki_X8_subtract : Cond.initialized yX8_subtract.cls ∈ lw_tbl := tin1 (List.mem_of_getElem? (l := tables_1_1) (i := 8) rfl)
set_option maxRecDepth 100000 in
theorem kc_X9_copyFrom : Cond.code yX9_copyFrom cX9_copyFrom 2 (none) ∈ lw_tbl := tin4 (List.mem_of_getElem? (l := tables_1_4) (i := 11) rfl)
set_option maxRecDepth 100000 in
theorem ki_X9_copyFrom : Cond.initialized yX9_copyFrom.cls ∈ lw_tbl := tin1 (List.mem_of_getElem? (l := tables_1_1) (i := 2) rfl)
set_option maxRecDepth 100000 in
theorem kc_X9_detailOf : Cond.code yX9_detailOf cX9_detailOf 3 (some .int) ∈ lw_tbl := tin4 (List.mem_of_getElem? (l := tables_1_4) (i := 45) rfl)
set_option maxRecDepth 100000 in
theorem ki_X9_detailOf : Cond.initialized yX9_detailOf.cls ∈ lw_tbl := tin1 (List.mem_of_getElem? (l := tables_1_1) (i := 2) rfl)
set_option maxRecDepth 100000 in
theorem kc_X9_enterAlarms : Cond.code yX9_enterAlarms cX9_enterAlarms 3 (none) ∈ lw_tbl := tin5 (List.mem_of_getElem? (l := tables_1_5) (i := 2) rfl)
set_option maxRecDepth 100000 in
theorem ki_X9_enterAlarms : Cond.initialized yX9_enterAlarms.cls ∈ lw_tbl := tin1 (List.mem_of_getElem? (l := tables_1_1) (i := 2) rfl)
set_option maxRecDepth 100000 in
theorem kc_X9_tryClose : Cond.code yX9_tryClose cX9_tryClose 1 (some .int) ∈ lw_tbl := tin4 (List.mem_of_getElem? (l := tables_1_4) (i := 186) rfl)
set_option maxRecDepth 100000 in
theorem ki_X9_tryClose : Cond.initialized yX9_tryClose.cls ∈ lw_tbl := tin1 (List.mem_of_getElem? (l := tables_1_1) (i := 2) rfl)
set_option maxRecDepth 100000 in
theorem kc_X9_tryCommand : Cond.code yX9_tryCommand cX9_tryCommand 3 (some .int) ∈ lw_tbl := tin6 (List.mem_of_getElem? (l := tables_1_6) (i := 128) rfl)
set_option maxRecDepth 100000 in
theorem ki_X9_tryCommand : Cond.initialized yX9_tryCommand.cls ∈ lw_tbl := tin1 (List.mem_of_getElem? (l := tables_1_1) (i := 2) rfl)
set_option maxRecDepth 100000 in
theorem kc_X9_tryGuard : Cond.code yX9_tryGuard cX9_tryGuard 4 (some .int) ∈ lw_tbl := tin4 (List.mem_of_getElem? (l := tables_1_4) (i := 197) rfl)
set_option maxRecDepth 100000 in
theorem ki_X9_tryGuard : Cond.initialized yX9_tryGuard.cls ∈ lw_tbl := tin1 (List.mem_of_getElem? (l := tables_1_1) (i := 2) rfl)
set_option maxRecDepth 100000 in
theorem kc_X9_tryHolder : Cond.code yX9_tryHolder cX9_tryHolder 1 (some .int) ∈ lw_tbl := tin4 (List.mem_of_getElem? (l := tables_1_4) (i := 30) rfl)
set_option maxRecDepth 100000 in
theorem ki_X9_tryHolder : Cond.initialized yX9_tryHolder.cls ∈ lw_tbl := tin1 (List.mem_of_getElem? (l := tables_1_1) (i := 2) rfl)
set_option maxRecDepth 100000 in
theorem kc_X9_tryHours : Cond.code yX9_tryHours cX9_tryHours 4 (some .int) ∈ lw_tbl := tin4 (List.mem_of_getElem? (l := tables_1_4) (i := 237) rfl)
set_option maxRecDepth 100000 in
theorem ki_X9_tryHours : Cond.initialized yX9_tryHours.cls ∈ lw_tbl := tin1 (List.mem_of_getElem? (l := tables_1_1) (i := 2) rfl)
set_option maxRecDepth 100000 in
theorem kc_X9_tryHum : Cond.code yX9_tryHum cX9_tryHum 3 (some .int) ∈ lw_tbl := tin4 (List.mem_of_getElem? (l := tables_1_4) (i := 225) rfl)
set_option maxRecDepth 100000 in
theorem ki_X9_tryHum : Cond.initialized yX9_tryHum.cls ∈ lw_tbl := tin1 (List.mem_of_getElem? (l := tables_1_1) (i := 2) rfl)
set_option maxRecDepth 100000 in
theorem kc_X9_tryOpen : Cond.code yX9_tryOpen cX9_tryOpen 3 (some .int) ∈ lw_tbl := tin4 (List.mem_of_getElem? (l := tables_1_4) (i := 148) rfl)
set_option maxRecDepth 100000 in
theorem ki_X9_tryOpen : Cond.initialized yX9_tryOpen.cls ∈ lw_tbl := tin1 (List.mem_of_getElem? (l := tables_1_1) (i := 2) rfl)
set_option maxRecDepth 100000 in
theorem kc_X9_tryPresent : Cond.code yX9_tryPresent cX9_tryPresent 2 (some .int) ∈ lw_tbl := tin4 (List.mem_of_getElem? (l := tables_1_4) (i := 118) rfl)
set_option maxRecDepth 100000 in
theorem ki_X9_tryPresent : Cond.initialized yX9_tryPresent.cls ∈ lw_tbl := tin1 (List.mem_of_getElem? (l := tables_1_1) (i := 2) rfl)
set_option maxRecDepth 100000 in
theorem kc_X9_trySeal : Cond.code yX9_trySeal cX9_trySeal 5 (some .int) ∈ lw_tbl := tin4 (List.mem_of_getElem? (l := tables_1_4) (i := 84) rfl)
set_option maxRecDepth 100000 in
theorem ki_X9_trySeal : Cond.initialized yX9_trySeal.cls ∈ lw_tbl := tin1 (List.mem_of_getElem? (l := tables_1_1) (i := 2) rfl)
set_option maxRecDepth 100000 in
theorem kc_X9_tryShare : Cond.code yX9_tryShare cX9_tryShare 3 (some .int) ∈ lw_tbl := tin4 (List.mem_of_getElem? (l := tables_1_4) (i := 106) rfl)
set_option maxRecDepth 100000 in
theorem ki_X9_tryShare : Cond.initialized yX9_tryShare.cls ∈ lw_tbl := tin1 (List.mem_of_getElem? (l := tables_1_1) (i := 2) rfl)
set_option maxRecDepth 100000 in
theorem kc_X9_tryTakeBack : Cond.code yX9_tryTakeBack cX9_tryTakeBack 3 (some .int) ∈ lw_tbl := tin4 (List.mem_of_getElem? (l := tables_1_4) (i := 133) rfl)
set_option maxRecDepth 100000 in
theorem ki_X9_tryTakeBack : Cond.initialized yX9_tryTakeBack.cls ∈ lw_tbl := tin1 (List.mem_of_getElem? (l := tables_1_1) (i := 2) rfl)
set_option maxRecDepth 100000 in
theorem kc_X9_tryTurn : Cond.code yX9_tryTurn cX9_tryTurn 2 (some .int) ∈ lw_tbl := tin4 (List.mem_of_getElem? (l := tables_1_4) (i := 213) rfl)
set_option maxRecDepth 100000 in
theorem ki_X9_tryTurn : Cond.initialized yX9_tryTurn.cls ∈ lw_tbl := tin1 (List.mem_of_getElem? (l := tables_1_1) (i := 2) rfl)
set_option maxRecDepth 100000 in
theorem kc_X9_verdictOnAttempt : Cond.code yX9_verdictOnAttempt cX9_verdictOnAttempt 1 (some .int) ∈ lw_tbl := tin4 (List.mem_of_getElem? (l := tables_1_4) (i := 152) rfl)
set_option maxRecDepth 100000 in
theorem ki_X9_verdictOnAttempt : Cond.initialized yX9_verdictOnAttempt.cls ∈ lw_tbl := tin1 (List.mem_of_getElem? (l := tables_1_1) (i := 2) rfl)
set_option maxRecDepth 100000 in
theorem kc_X9_verdictOnOutcome : Cond.code yX9_verdictOnOutcome cX9_verdictOnOutcome 2 (some .int) ∈ lw_tbl := tin6 (List.mem_of_getElem? (l := tables_1_6) (i := 146) rfl)
set_option maxRecDepth 100000 in
theorem ki_X9_verdictOnOutcome : Cond.initialized yX9_verdictOnOutcome.cls ∈ lw_tbl := tin1 (List.mem_of_getElem? (l := tables_1_1) (i := 2) rfl)
set_option maxRecDepth 100000 in
theorem kc_J6_bitCount_0f7a4 : Cond.code yJ6_bitCount_0f7a4 cJ6_bitCount_0f7a4 1 (some .int) ∈ lw_tbl := tin6 (List.mem_of_getElem? (l := tables_1_6) (i := 205) rfl)
set_option maxRecDepth 100000 in
theorem ki_J6_bitCount_0f7a4 : Cond.initialized yJ6_bitCount_0f7a4.cls ∈ lw_tbl := tin1 (List.mem_of_getElem? (l := tables_1_1) (i := 30) rfl)
set_option maxRecDepth 100000 in
theorem kc_J9_floorMod_7cf53 : Cond.code yJ9_floorMod_7cf53 cJ9_floorMod_7cf53 3 (some .int) ∈ lw_tbl := tin6 (List.mem_of_getElem? (l := tables_1_6) (i := 239) rfl)
set_option maxRecDepth 100000 in
theorem ki_J9_floorMod_7cf53 : Cond.initialized yJ9_floorMod_7cf53.cls ∈ lw_tbl := tin1 (List.mem_of_getElem? (l := tables_1_1) (i := 21) rfl)
set_option maxRecDepth 100000 in
theorem kc_J0_charAt_5068e : Cond.code yJ0_charAt_5068e cJ0_charAt_5068e 2 (some .char) ∈ lw_tbl := tin6 (List.mem_of_getElem? (l := tables_1_6) (i := 15) rfl)
set_option maxRecDepth 100000 in
theorem ki_J0_charAt_5068e : Cond.initialized yJ0_charAt_5068e.cls ∈ lw_tbl := tin1 (List.mem_of_getElem? (l := tables_1_1) (i := 17) rfl)
set_option maxRecDepth 100000 in
theorem kc_J0_checkIndex_df160 : Cond.code yJ0_checkIndex_df160 cJ0_checkIndex_df160 2 (none) ∈ lw_tbl := tin6 (List.mem_of_getElem? (l := tables_1_6) (i := 25) rfl)
set_option maxRecDepth 100000 in
theorem ki_J0_checkIndex_df160 : Cond.initialized yJ0_checkIndex_df160.cls ∈ lw_tbl := tin1 (List.mem_of_getElem? (l := tables_1_1) (i := 17) rfl)
set_option maxRecDepth 100000 in
theorem kc_J0_coder_7d493 : Cond.code yJ0_coder_7d493 cJ0_coder_7d493 1 (some .byte) ∈ lw_tbl := tin5 (List.mem_of_getElem? (l := tables_1_5) (i := 119) rfl)
set_option maxRecDepth 100000 in
theorem ki_J0_coder_7d493 : Cond.initialized yJ0_coder_7d493.cls ∈ lw_tbl := tin1 (List.mem_of_getElem? (l := tables_1_1) (i := 17) rfl)
set_option maxRecDepth 100000 in
theorem kc_J0_isLatin1_aae02 : Cond.code yJ0_isLatin1_aae02 cJ0_isLatin1_aae02 1 (some .boolean) ∈ lw_tbl := tin6 (List.mem_of_getElem? (l := tables_1_6) (i := 19) rfl)
set_option maxRecDepth 100000 in
theorem ki_J0_isLatin1_aae02 : Cond.initialized yJ0_isLatin1_aae02.cls ∈ lw_tbl := tin1 (List.mem_of_getElem? (l := tables_1_1) (i := 17) rfl)
set_option maxRecDepth 100000 in
theorem kc_J0_length_8abf5 : Cond.code yJ0_length_8abf5 cJ0_length_8abf5 1 (some .int) ∈ lw_tbl := tin5 (List.mem_of_getElem? (l := tables_1_5) (i := 115) rfl)
set_option maxRecDepth 100000 in
theorem ki_J0_length_8abf5 : Cond.initialized yJ0_length_8abf5.cls ∈ lw_tbl := tin1 (List.mem_of_getElem? (l := tables_1_1) (i := 17) rfl)
set_option maxRecDepth 100000 in
theorem kc_J1_charAt_3b067 : Cond.code yJ1_charAt_3b067 cJ1_charAt_3b067 2 (some .char) ∈ lw_tbl := tin6 (List.mem_of_getElem? (l := tables_1_6) (i := 22) rfl)
set_option maxRecDepth 100000 in
theorem ki_J1_charAt_3b067 : Cond.initialized yJ1_charAt_3b067.cls ∈ lw_tbl := tin1 (List.mem_of_getElem? (l := tables_1_1) (i := 28) rfl)
set_option maxRecDepth 100000 in
theorem kc_J3_checkIndex_8e157 : Cond.code yJ3_checkIndex_8e157 cJ3_checkIndex_8e157 3 (some .int) ∈ lw_tbl := tin6 (List.mem_of_getElem? (l := tables_1_6) (i := 28) rfl)
set_option maxRecDepth 100000 in
theorem ki_J3_checkIndex_8e157 : Cond.initialized yJ3_checkIndex_8e157.cls ∈ lw_tbl := tin1 (List.mem_of_getElem? (l := tables_1_1) (i := 27) rfl)
set_option maxRecDepth 100000 in
theorem sel_X11_doTellingsMatch {s : State} {a : Array Value} (h : mT s) : (Cond.selects "ShareVault" yX11_doTellingsMatch yX11_doTellingsMatch).before a s = true := h _ (List.mem_append_left _ (List.mem_of_getElem? (l := k2_sels lw_privs) (i := 36) rfl)) rfl a
set_option maxRecDepth 100000 in
theorem sel_X11_doVisitsMatch {s : State} {a : Array Value} (h : mT s) : (Cond.selects "ShareVault" yX11_doVisitsMatch yX11_doVisitsMatch).before a s = true := h _ (List.mem_append_left _ (List.mem_of_getElem? (l := k2_sels lw_privs) (i := 35) rfl)) rfl a
set_option maxRecDepth 100000 in
theorem sel_X11_keepRefusal {s : State} {a : Array Value} (h : mT s) : (Cond.selects "ShareVault" yX11_keepRefusal yX11_keepRefusal).before a s = true := h _ (List.mem_append_left _ (List.mem_of_getElem? (l := k2_sels lw_privs) (i := 12) rfl)) rfl a
set_option maxRecDepth 100000 in
theorem sel_X11_requireEnoughKeys {s : State} {a : Array Value} (h : mT s) : (Cond.selects "ShareVault" yX11_requireEnoughKeys yX11_requireEnoughKeys).before a s = true := h _ (List.mem_append_left _ (List.mem_of_getElem? (l := k2_sels lw_privs) (i := 3) rfl)) rfl a
set_option maxRecDepth 100000 in
theorem sel_X11_requireEntry {s : State} {a : Array Value} (h : mT s) : (Cond.selects "ShareVault" yX11_requireEntry yX11_requireEntry).before a s = true := h _ (List.mem_append_left _ (List.mem_of_getElem? (l := k2_sels lw_privs) (i := 9) rfl)) rfl a
set_option maxRecDepth 100000 in
theorem sel_X11_requireGuard {s : State} {a : Array Value} (h : mT s) : (Cond.selects "ShareVault" yX11_requireGuard yX11_requireGuard).before a s = true := h _ (List.mem_append_left _ (List.mem_of_getElem? (l := k2_sels lw_privs) (i := 10) rfl)) rfl a
set_option maxRecDepth 100000 in
theorem sel_X11_requireGuards {s : State} {a : Array Value} (h : mT s) : (Cond.selects "ShareVault" yX11_requireGuards yX11_requireGuards).before a s = true := h _ (List.mem_append_left _ (List.mem_of_getElem? (l := k2_sels lw_privs) (i := 7) rfl)) rfl a
set_option maxRecDepth 100000 in
theorem sel_X11_requireHolder {s : State} {a : Array Value} (h : mT s) : (Cond.selects "ShareVault" yX11_requireHolder yX11_requireHolder).before a s = true := h _ (List.mem_append_left _ (List.mem_of_getElem? (l := k2_sels lw_privs) (i := 2) rfl)) rfl a
set_option maxRecDepth 100000 in
theorem sel_X11_requireSeal {s : State} {a : Array Value} (h : mT s) : (Cond.selects "ShareVault" yX11_requireSeal yX11_requireSeal).before a s = true := h _ (List.mem_append_left _ (List.mem_of_getElem? (l := k2_sels lw_privs) (i := 0) rfl)) rfl a
set_option maxRecDepth 100000 in
theorem sel_X11_requireZone {s : State} {a : Array Value} (h : mT s) : (Cond.selects "ShareVault" yX11_requireZone yX11_requireZone).before a s = true := h _ (List.mem_append_left _ (List.mem_of_getElem? (l := k2_sels lw_privs) (i := 6) rfl)) rfl a
set_option maxRecDepth 100000 in
theorem sel_X11_settle {s : State} {a : Array Value} (h : mT s) : (Cond.selects "ShareVault" yX11_settle yX11_settle).before a s = true := h _ (List.mem_append_left _ (List.mem_of_getElem? (l := k2_sels lw_privs) (i := 11) rfl)) rfl a
set_option maxRecDepth 100000 in
theorem sel_X11_visitByHours {s : State} {a : Array Value} (h : mT s) : (Cond.selects "ShareVault" yX11_visitByHours yX11_visitByHours).before a s = true := h _ (List.mem_append_left _ (List.mem_of_getElem? (l := k2_sels lw_privs) (i := 8) rfl)) rfl a
set_option maxRecDepth 100000 in
theorem sel_X1_comesBefore {s : State} {a : Array Value} (h : mT s) : (Cond.selects "ShareVault$Building" yX1_comesBefore yX1_comesBefore).before a s = true := h _ (List.mem_append_left _ (List.mem_of_getElem? (l := k2_sels lw_privs) (i := 33) rfl)) rfl a
set_option maxRecDepth 100000 in
theorem sel_X1_rankOf {s : State} {a : Array Value} (h : mT s) : (Cond.selects "ShareVault$Building" yX1_rankOf yX1_rankOf).before a s = true := h _ (List.mem_append_left _ (List.mem_of_getElem? (l := k2_sels lw_privs) (i := 32) rfl)) rfl a
set_option maxRecDepth 100000 in
theorem sel_X1_visitOf {s : State} {a : Array Value} (h : mT s) : (Cond.selects "ShareVault$Building" yX1_visitOf yX1_visitOf).before a s = true := h _ (List.mem_append_left _ (List.mem_of_getElem? (l := k2_sels lw_privs) (i := 34) rfl)) rfl a
set_option maxRecDepth 100000 in
theorem sel_X2_addNumber {s : State} {a : Array Value} (h : mT s) : (Cond.selects "ShareVault$Commands" yX2_addNumber yX2_addNumber).before a s = true := h _ (List.mem_append_left _ (List.mem_of_getElem? (l := k2_sels lw_privs) (i := 21) rfl)) rfl a
set_option maxRecDepth 100000 in
theorem sel_X2_matchingLetters {s : State} {a : Array Value} (h : mT s) : (Cond.selects "ShareVault$Commands" yX2_matchingLetters yX2_matchingLetters).before a s = true := h _ (List.mem_append_left _ (List.mem_of_getElem? (l := k2_sels lw_privs) (i := 18) rfl)) rfl a
set_option maxRecDepth 100000 in
theorem sel_X2_peek {s : State} {a : Array Value} (h : mT s) : (Cond.selects "ShareVault$Commands" yX2_peek yX2_peek).before a s = true := h _ (List.mem_append_left _ (List.mem_of_getElem? (l := k2_sels lw_privs) (i := 20) rfl)) rfl a
set_option maxRecDepth 100000 in
theorem sel_X2_readBlank {s : State} {a : Array Value} (h : mT s) : (Cond.selects "ShareVault$Commands" yX2_readBlank yX2_readBlank).before a s = true := h _ (List.mem_append_left _ (List.mem_of_getElem? (l := k2_sels lw_privs) (i := 25) rfl)) rfl a
set_option maxRecDepth 100000 in
theorem sel_X2_readCommand {s : State} {a : Array Value} (h : mT s) : (Cond.selects "ShareVault$Commands" yX2_readCommand yX2_readCommand).before a s = true := h _ (List.mem_append_left _ (List.mem_of_getElem? (l := k2_sels lw_privs) (i := 16) rfl)) rfl a
set_option maxRecDepth 100000 in
theorem sel_X2_readDirection {s : State} {a : Array Value} (h : mT s) : (Cond.selects "ShareVault$Commands" yX2_readDirection yX2_readDirection).before a s = true := h _ (List.mem_append_left _ (List.mem_of_getElem? (l := k2_sels lw_privs) (i := 24) rfl)) rfl a
set_option maxRecDepth 100000 in
theorem sel_X2_readForm {s : State} {a : Array Value} (h : mT s) : (Cond.selects "ShareVault$Commands" yX2_readForm yX2_readForm).before a s = true := h _ (List.mem_append_left _ (List.mem_of_getElem? (l := k2_sels lw_privs) (i := 19) rfl)) rfl a
set_option maxRecDepth 100000 in
theorem sel_X2_readNumber {s : State} {a : Array Value} (h : mT s) : (Cond.selects "ShareVault$Commands" yX2_readNumber yX2_readNumber).before a s = true := h _ (List.mem_append_left _ (List.mem_of_getElem? (l := k2_sels lw_privs) (i := 23) rfl)) rfl a
set_option maxRecDepth 100000 in
theorem sel_X2_readPart {s : State} {a : Array Value} (h : mT s) : (Cond.selects "ShareVault$Commands" yX2_readPart yX2_readPart).before a s = true := h _ (List.mem_append_left _ (List.mem_of_getElem? (l := k2_sels lw_privs) (i := 22) rfl)) rfl a
set_option maxRecDepth 100000 in
theorem sel_X2_readWord {s : State} {a : Array Value} (h : mT s) : (Cond.selects "ShareVault$Commands" yX2_readWord yX2_readWord).before a s = true := h _ (List.mem_append_left _ (List.mem_of_getElem? (l := k2_sels lw_privs) (i := 17) rfl)) rfl a
set_option maxRecDepth 100000 in
theorem sel_X5_dropOldest {s : State} {a : Array Value} (h : mT s) : (Cond.selects "ShareVault$Journal" yX5_dropOldest yX5_dropOldest).before a s = true := h _ (List.mem_append_left _ (List.mem_of_getElem? (l := k2_sels lw_privs) (i := 14) rfl)) rfl a
set_option maxRecDepth 100000 in
theorem sel_X6_quotientsOf {s : State} {a : Array Value} (h : mT s) : (Cond.selects "ShareVault$Keys" yX6_quotientsOf yX6_quotientsOf).before a s = true := h _ (List.mem_append_left _ (List.mem_of_getElem? (l := k2_sels lw_privs) (i := 5) rfl)) rfl a
set_option maxRecDepth 100000 in
theorem sel_X6_valueThrough {s : State} {a : Array Value} (h : mT s) : (Cond.selects "ShareVault$Keys" yX6_valueThrough yX6_valueThrough).before a s = true := h _ (List.mem_append_left _ (List.mem_of_getElem? (l := k2_sels lw_privs) (i := 4) rfl)) rfl a
set_option maxRecDepth 100000 in
theorem sel_X8_choose {s : State} {a : Array Value} (h : mT s) : (Cond.selects "ShareVault$Solver" yX8_choose yX8_choose).before a s = true := h _ (List.mem_append_left _ (List.mem_of_getElem? (l := k2_sels lw_privs) (i := 30) rfl)) rfl a
set_option maxRecDepth 100000 in
theorem sel_X8_countOnCurve {s : State} {a : Array Value} (h : mT s) : (Cond.selects "ShareVault$Solver" yX8_countOnCurve yX8_countOnCurve).before a s = true := h _ (List.mem_append_left _ (List.mem_of_getElem? (l := k2_sels lw_privs) (i := 31) rfl)) rfl a
set_option maxRecDepth 100000 in
theorem sel_X8_eliminate {s : State} {a : Array Value} (h : mT s) : (Cond.selects "ShareVault$Solver" yX8_eliminate yX8_eliminate).before a s = true := h _ (List.mem_append_left _ (List.mem_of_getElem? (l := k2_sels lw_privs) (i := 29) rfl)) rfl a
set_option maxRecDepth 100000 in
theorem sel_X8_fit {s : State} {a : Array Value} (h : mT s) : (Cond.selects "ShareVault$Solver" yX8_fit yX8_fit).before a s = true := h _ (List.mem_append_left _ (List.mem_of_getElem? (l := k2_sels lw_privs) (i := 27) rfl)) rfl a
set_option maxRecDepth 100000 in
theorem sel_X8_setEquation {s : State} {a : Array Value} (h : mT s) : (Cond.selects "ShareVault$Solver" yX8_setEquation yX8_setEquation).before a s = true := h _ (List.mem_append_left _ (List.mem_of_getElem? (l := k2_sels lw_privs) (i := 28) rfl)) rfl a
set_option maxRecDepth 100000 in
theorem sel_X9_enterAlarms {s : State} {a : Array Value} (h : mT s) : (Cond.selects "ShareVault$State" yX9_enterAlarms yX9_enterAlarms).before a s = true := h _ (List.mem_append_left _ (List.mem_of_getElem? (l := k2_sels lw_privs) (i := 15) rfl)) rfl a
set_option maxRecDepth 100000 in
theorem sel_X9_verdictOnAttempt {s : State} {a : Array Value} (h : mT s) : (Cond.selects "ShareVault$State" yX9_verdictOnAttempt yX9_verdictOnAttempt).before a s = true := h _ (List.mem_append_left _ (List.mem_of_getElem? (l := k2_sels lw_privs) (i := 13) rfl)) rfl a
set_option maxRecDepth 100000 in
theorem sel_X9_verdictOnOutcome {s : State} {a : Array Value} (h : mT s) : (Cond.selects "ShareVault$State" yX9_verdictOnOutcome yX9_verdictOnOutcome).before a s = true := h _ (List.mem_append_left _ (List.mem_of_getElem? (l := k2_sels lw_privs) (i := 26) rfl)) rfl a
