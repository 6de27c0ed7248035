theorem tin1 {w : Cond} (h : w ∈ tables_1_1) : w ∈ lw_tbl := m_tin (List.mem_append_left _ h)
theorem tin2 {w : Cond} (h : w ∈ tables_1_2) : w ∈ lw_tbl := m_tin (List.mem_append_right _ (List.mem_append_left _ h))
theorem tin3 {w : Cond} (h : w ∈ tables_1_3) : w ∈ lw_tbl := m_tin (List.mem_append_right _ (List.mem_append_right _ (List.mem_append_left _ h)))
theorem tin4 {w : Cond} (h : w ∈ tables_1_4) : w ∈ lw_tbl := m_tin (List.mem_append_right _ (List.mem_append_right _ (List.mem_append_right _ (List.mem_append_left _ h))))
theorem tin5 {w : Cond} (h : w ∈ tables_1_5) : w ∈ lw_tbl := m_tin (List.mem_append_right _ (List.mem_append_right _ (List.mem_append_right _ (List.mem_append_right _ (List.mem_append_left _ h)))))
theorem tin6 {w : Cond} (h : w ∈ tables_1_6) : w ∈ lw_tbl := m_tin (List.mem_append_right _ (List.mem_append_right _ (List.mem_append_right _ (List.mem_append_right _ (List.mem_append_right _ (List.mem_append_left _ h))))))
theorem tin7 {w : Cond} (h : w ∈ tables_1_7) : w ∈ lw_tbl := m_tin (List.mem_append_right _ (List.mem_append_right _ (List.mem_append_right _ (List.mem_append_right _ (List.mem_append_right _ (List.mem_append_right _ (List.mem_append_left _ h)))))))
theorem tin8 {w : Cond} (h : w ∈ tables_1_8) : w ∈ lw_tbl := m_tin (List.mem_append_right _ (List.mem_append_right _ (List.mem_append_right _ (List.mem_append_right _ (List.mem_append_right _ (List.mem_append_right _ (List.mem_append_right _ (List.mem_append_left _ h))))))))
theorem tin9 {w : Cond} (h : w ∈ tables_1_9) : w ∈ lw_tbl := m_tin (List.mem_append_right _ (List.mem_append_right _ (List.mem_append_right _ (List.mem_append_right _ (List.mem_append_right _ (List.mem_append_right _ (List.mem_append_right _ (List.mem_append_right _ (h)))))))))
set_option maxRecDepth 100000 in
theorem q12 {s : State} {a : Array Value} (h : mT s) : (Jvm.Cond.initialized "java/lang/System").before a s = true := h _ (tin1 (List.mem_of_getElem? (l := tables_1_1) (i := 12) rfl)) rfl a
set_option maxRecDepth 100000 in
theorem q16 {s : State} {a : Array Value} (h : mT s) : (Jvm.Cond.initialized "java/lang/IndexOutOfBoundsException").before a s = true := h _ (tin1 (List.mem_of_getElem? (l := tables_1_1) (i := 16) rfl)) rfl a
set_option maxRecDepth 100000 in
theorem q17 {s : State} {a : Array Value} (h : mT s) : (Jvm.Cond.initialized "java/lang/IllegalArgumentException").before a s = true := h _ (tin1 (List.mem_of_getElem? (l := tables_1_1) (i := 17) rfl)) rfl a
set_option maxRecDepth 100000 in
theorem q18 {s : State} {a : Array Value} (h : mT s) : (Jvm.Cond.initialized "java/lang/UnsupportedOperationException").before a s = true := h _ (tin1 (List.mem_of_getElem? (l := tables_1_1) (i := 18) rfl)) rfl a
set_option maxRecDepth 100000 in
theorem q19 {s : State} {a : Array Value} (h : mT s) : (Jvm.Cond.initialized "java/lang/Math").before a s = true := h _ (tin1 (List.mem_of_getElem? (l := tables_1_1) (i := 19) rfl)) rfl a
set_option maxRecDepth 100000 in
theorem q22 {s : State} {a : Array Value} (h : mT s) : (Jvm.Cond.initialized "java/util/NoSuchElementException").before a s = true := h _ (tin1 (List.mem_of_getElem? (l := tables_1_1) (i := 22) rfl)) rfl a
set_option maxRecDepth 100000 in
theorem q24 {s : State} {a : Array Value} (h : mT s) : (Jvm.Cond.initialized "java/lang/ArithmeticException").before a s = true := h _ (tin1 (List.mem_of_getElem? (l := tables_1_1) (i := 24) rfl)) rfl a
set_option maxRecDepth 100000 in
theorem q25 {s : State} {a : Array Value} (h : mT s) : (Jvm.Cond.initialized "java/lang/IllegalStateException").before a s = true := h _ (tin1 (List.mem_of_getElem? (l := tables_1_1) (i := 25) rfl)) rfl a
set_option maxRecDepth 100000 in
theorem q50 {s : State} {a : Array Value} (h : mT s) : (Jvm.Cond.fieldLink "ShareVault$Keys" (21 : Nat) "ShareVault$Keys" "holderCount" "I").before a s = true := h _ (tin1 (List.mem_of_getElem? (l := tables_1_1) (i := 50) rfl)) rfl a
set_option maxRecDepth 100000 in
theorem q51 {s : State} {a : Array Value} (h : mT s) : (Jvm.Cond.fieldLink "ShareVault$State" (52 : Nat) "ShareVault$Keys" "holderCount" "I").before a s = true := h _ (tin1 (List.mem_of_getElem? (l := tables_1_1) (i := 51) rfl)) rfl a
set_option maxRecDepth 100000 in
theorem q52 {s : State} {a : Array Value} (h : mT s) : (Jvm.Cond.fieldLink "ShareVault" (119 : Nat) "ShareVault$Keys" "holderCount" "I").before a s = true := h _ (tin1 (List.mem_of_getElem? (l := tables_1_1) (i := 52) rfl)) rfl a
set_option maxRecDepth 100000 in
theorem q53 {s : State} {a : Array Value} (h : mT s) : (Jvm.Cond.fieldLink "ShareVault$Keys" (9 : Nat) "ShareVault$Keys" "shares" "[I").before a s = true := h _ (tin1 (List.mem_of_getElem? (l := tables_1_1) (i := 53) rfl)) rfl a
set_option maxRecDepth 100000 in
theorem q54 {s : State} {a : Array Value} (h : mT s) : (Jvm.Cond.fieldLink "ShareVault$Solver" (63 : Nat) "ShareVault$Keys" "shares" "[I").before a s = true := h _ (tin1 (List.mem_of_getElem? (l := tables_1_1) (i := 54) rfl)) rfl a
set_option maxRecDepth 100000 in
theorem q55 {s : State} {a : Array Value} (h : mT s) : (Jvm.Cond.fieldLink "ShareVault$State" (100 : Nat) "ShareVault$Keys" "shares" "[I").before a s = true := h _ (tin1 (List.mem_of_getElem? (l := tables_1_1) (i := 55) rfl)) rfl a
set_option maxRecDepth 100000 in
theorem q56 {s : State} {a : Array Value} (h : mT s) : (Jvm.Cond.fieldLink "ShareVault" (138 : Nat) "ShareVault$Keys" "shares" "[I").before a s = true := h _ (tin1 (List.mem_of_getElem? (l := tables_1_1) (i := 56) rfl)) rfl a
set_option maxRecDepth 100000 in
theorem q57 {s : State} {a : Array Value} (h : mT s) : (Jvm.Cond.fieldLink "ShareVault$Keys" (31 : Nat) "ShareVault$Keys" "sealed" "Z").before a s = true := h _ (tin1 (List.mem_of_getElem? (l := tables_1_1) (i := 57) rfl)) rfl a
set_option maxRecDepth 100000 in
theorem q58 {s : State} {a : Array Value} (h : mT s) : (Jvm.Cond.fieldLink "ShareVault$State" (96 : Nat) "ShareVault$Keys" "sealed" "Z").before a s = true := h _ (tin1 (List.mem_of_getElem? (l := tables_1_1) (i := 58) rfl)) rfl a
set_option maxRecDepth 100000 in
theorem q59 {s : State} {a : Array Value} (h : mT s) : (Jvm.Cond.fieldLink "ShareVault" (124 : Nat) "ShareVault$Keys" "sealed" "Z").before a s = true := h _ (tin1 (List.mem_of_getElem? (l := tables_1_1) (i := 59) rfl)) rfl a
set_option maxRecDepth 100000 in
theorem q60 {s : State} {a : Array Value} (h : mT s) : (Jvm.Cond.fieldLink "ShareVault$Keys" (35 : Nat) "ShareVault$Keys" "threshold" "I").before a s = true := h _ (tin1 (List.mem_of_getElem? (l := tables_1_1) (i := 60) rfl)) rfl a
set_option maxRecDepth 100000 in
theorem q61 {s : State} {a : Array Value} (h : mT s) : (Jvm.Cond.fieldLink "ShareVault$Solver" (42 : Nat) "ShareVault$Keys" "threshold" "I").before a s = true := h _ (tin1 (List.mem_of_getElem? (l := tables_1_1) (i := 61) rfl)) rfl a
set_option maxRecDepth 100000 in
theorem q62 {s : State} {a : Array Value} (h : mT s) : (Jvm.Cond.fieldLink "ShareVault$State" (66 : Nat) "ShareVault$Keys" "threshold" "I").before a s = true := h _ (tin1 (List.mem_of_getElem? (l := tables_1_1) (i := 62) rfl)) rfl a
set_option maxRecDepth 100000 in
theorem q63 {s : State} {a : Array Value} (h : mT s) : (Jvm.Cond.fieldLink "ShareVault" (131 : Nat) "ShareVault$Keys" "threshold" "I").before a s = true := h _ (tin1 (List.mem_of_getElem? (l := tables_1_1) (i := 63) rfl)) rfl a
set_option maxRecDepth 100000 in
theorem q64 {s : State} {a : Array Value} (h : mT s) : (Jvm.Cond.fieldLink "ShareVault$Keys" (15 : Nat) "ShareVault$Keys" "curve" "[I").before a s = true := h _ (tin1 (List.mem_of_getElem? (l := tables_1_1) (i := 64) rfl)) rfl a
set_option maxRecDepth 100000 in
theorem q65 {s : State} {a : Array Value} (h : mT s) : (Jvm.Cond.fieldLink "ShareVault$Keys" (38 : Nat) "ShareVault$Keys" "presentedCount" "I").before a s = true := h _ (tin1 (List.mem_of_getElem? (l := tables_1_1) (i := 65) rfl)) rfl a
set_option maxRecDepth 100000 in
theorem q66 {s : State} {a : Array Value} (h : mT s) : (Jvm.Cond.fieldLink "ShareVault$Solver" (32 : Nat) "ShareVault$Keys" "presentedCount" "I").before a s = true := h _ (tin1 (List.mem_of_getElem? (l := tables_1_1) (i := 66) rfl)) rfl a
set_option maxRecDepth 100000 in
theorem q67 {s : State} {a : Array Value} (h : mT s) : (Jvm.Cond.fieldLink "ShareVault$State" (60 : Nat) "ShareVault$Keys" "presentedCount" "I").before a s = true := h _ (tin1 (List.mem_of_getElem? (l := tables_1_1) (i := 67) rfl)) rfl a
set_option maxRecDepth 100000 in
theorem q68 {s : State} {a : Array Value} (h : mT s) : (Jvm.Cond.fieldLink "ShareVault" (148 : Nat) "ShareVault$Keys" "presentedCount" "I").before a s = true := h _ (tin1 (List.mem_of_getElem? (l := tables_1_1) (i := 68) rfl)) rfl a
set_option maxRecDepth 100000 in
theorem q69 {s : State} {a : Array Value} (h : mT s) : (Jvm.Cond.fieldLink "ShareVault$Keys" (18 : Nat) "ShareVault$Keys" "presented" "[I").before a s = true := h _ (tin1 (List.mem_of_getElem? (l := tables_1_1) (i := 69) rfl)) rfl a
set_option maxRecDepth 100000 in
theorem q70 {s : State} {a : Array Value} (h : mT s) : (Jvm.Cond.fieldLink "ShareVault$Solver" (23 : Nat) "ShareVault$Keys" "presented" "[I").before a s = true := h _ (tin1 (List.mem_of_getElem? (l := tables_1_1) (i := 70) rfl)) rfl a
set_option maxRecDepth 100000 in
theorem q71 {s : State} {a : Array Value} (h : mT s) : (Jvm.Cond.fieldLink "ShareVault" (158 : Nat) "ShareVault$Keys" "presented" "[I").before a s = true := h _ (tin1 (List.mem_of_getElem? (l := tables_1_1) (i := 71) rfl)) rfl a
set_option maxRecDepth 100000 in
theorem q94 {s : State} {a : Array Value} (h : mT s) : (Jvm.Cond.fieldLink "ShareVault$Door" (9 : Nat) "ShareVault$Door" "open" "Z").before a s = true := h _ (tin1 (List.mem_of_getElem? (l := tables_1_1) (i := 94) rfl)) rfl a
set_option maxRecDepth 100000 in
theorem q95 {s : State} {a : Array Value} (h : mT s) : (Jvm.Cond.fieldLink "ShareVault$State" (130 : Nat) "ShareVault$Door" "open" "Z").before a s = true := h _ (tin1 (List.mem_of_getElem? (l := tables_1_1) (i := 95) rfl)) rfl a
set_option maxRecDepth 100000 in
theorem q96 {s : State} {a : Array Value} (h : mT s) : (Jvm.Cond.fieldLink "ShareVault" (190 : Nat) "ShareVault$Door" "open" "Z").before a s = true := h _ (tin1 (List.mem_of_getElem? (l := tables_1_1) (i := 96) rfl)) rfl a
set_option maxRecDepth 100000 in
theorem q97 {s : State} {a : Array Value} (h : mT s) : (Jvm.Cond.fieldLink "ShareVault$Door" (15 : Nat) "ShareVault$Door" "lockedHours" "I").before a s = true := h _ (tin1 (List.mem_of_getElem? (l := tables_1_1) (i := 97) rfl)) rfl a
set_option maxRecDepth 100000 in
theorem q98 {s : State} {a : Array Value} (h : mT s) : (Jvm.Cond.fieldLink "ShareVault$State" (63 : Nat) "ShareVault$Door" "lockedHours" "I").before a s = true := h _ (tin1 (List.mem_of_getElem? (l := tables_1_1) (i := 98) rfl)) rfl a
set_option maxRecDepth 100000 in
theorem q99 {s : State} {a : Array Value} (h : mT s) : (Jvm.Cond.fieldLink "ShareVault" (195 : Nat) "ShareVault$Door" "lockedHours" "I").before a s = true := h _ (tin1 (List.mem_of_getElem? (l := tables_1_1) (i := 99) rfl)) rfl a
set_option maxRecDepth 100000 in
theorem q100 {s : State} {a : Array Value} (h : mT s) : (Jvm.Cond.fieldLink "ShareVault$Door" (19 : Nat) "ShareVault$Door" "failedAttempts" "I").before a s = true := h _ (tin1 (List.mem_of_getElem? (l := tables_1_1) (i := 100) rfl)) rfl a
set_option maxRecDepth 100000 in
theorem q101 {s : State} {a : Array Value} (h : mT s) : (Jvm.Cond.fieldLink "ShareVault$State" (72 : Nat) "ShareVault$Door" "failedAttempts" "I").before a s = true := h _ (tin1 (List.mem_of_getElem? (l := tables_1_1) (i := 101) rfl)) rfl a
set_option maxRecDepth 100000 in
theorem q102 {s : State} {a : Array Value} (h : mT s) : (Jvm.Cond.fieldLink "ShareVault" (198 : Nat) "ShareVault$Door" "failedAttempts" "I").before a s = true := h _ (tin1 (List.mem_of_getElem? (l := tables_1_1) (i := 102) rfl)) rfl a
set_option maxRecDepth 100000 in
theorem q103 {s : State} {a : Array Value} (h : mT s) : (Jvm.Cond.fieldLink "ShareVault$Door" (22 : Nat) "ShareVault$Door" "openingCount" "I").before a s = true := h _ (tin1 (List.mem_of_getElem? (l := tables_1_1) (i := 103) rfl)) rfl a
set_option maxRecDepth 100000 in
theorem q104 {s : State} {a : Array Value} (h : mT s) : (Jvm.Cond.fieldLink "ShareVault" (256 : Nat) "ShareVault$Door" "openingCount" "I").before a s = true := h _ (tin1 (List.mem_of_getElem? (l := tables_1_1) (i := 104) rfl)) rfl a
set_option maxRecDepth 100000 in
theorem q120 {s : State} {a : Array Value} (h : mT s) : (Jvm.Cond.fieldLink "ShareVault$Building" (28 : Nat) "ShareVault$Building" "hour" "I").before a s = true := h _ (tin1 (List.mem_of_getElem? (l := tables_1_1) (i := 120) rfl)) rfl a
set_option maxRecDepth 100000 in
theorem q121 {s : State} {a : Array Value} (h : mT s) : (Jvm.Cond.fieldLink "ShareVault$State" (123 : Nat) "ShareVault$Building" "hour" "I").before a s = true := h _ (tin1 (List.mem_of_getElem? (l := tables_1_1) (i := 121) rfl)) rfl a
set_option maxRecDepth 100000 in
theorem q122 {s : State} {a : Array Value} (h : mT s) : (Jvm.Cond.fieldLink "ShareVault" (112 : Nat) "ShareVault$Building" "hour" "I").before a s = true := h _ (tin1 (List.mem_of_getElem? (l := tables_1_1) (i := 122) rfl)) rfl a
set_option maxRecDepth 100000 in
theorem q123 {s : State} {a : Array Value} (h : mT s) : (Jvm.Cond.fieldLink "ShareVault$Building" (9 : Nat) "ShareVault$Building" "noise" "[I").before a s = true := h _ (tin1 (List.mem_of_getElem? (l := tables_1_1) (i := 123) rfl)) rfl a
set_option maxRecDepth 100000 in
theorem q124 {s : State} {a : Array Value} (h : mT s) : (Jvm.Cond.fieldLink "ShareVault$State" (153 : Nat) "ShareVault$Building" "noise" "[I").before a s = true := h _ (tin1 (List.mem_of_getElem? (l := tables_1_1) (i := 124) rfl)) rfl a
set_option maxRecDepth 100000 in
theorem q125 {s : State} {a : Array Value} (h : mT s) : (Jvm.Cond.fieldLink "ShareVault" (217 : Nat) "ShareVault$Building" "noise" "[I").before a s = true := h _ (tin1 (List.mem_of_getElem? (l := tables_1_1) (i := 125) rfl)) rfl a
set_option maxRecDepth 100000 in
theorem q126 {s : State} {a : Array Value} (h : mT s) : (Jvm.Cond.fieldLink "ShareVault$Building" (15 : Nat) "ShareVault$Building" "alarms" "[I").before a s = true := h _ (tin1 (List.mem_of_getElem? (l := tables_1_1) (i := 126) rfl)) rfl a
set_option maxRecDepth 100000 in
theorem q127 {s : State} {a : Array Value} (h : mT s) : (Jvm.Cond.fieldLink "ShareVault" (253 : Nat) "ShareVault$Building" "alarms" "[I").before a s = true := h _ (tin1 (List.mem_of_getElem? (l := tables_1_1) (i := 127) rfl)) rfl a
set_option maxRecDepth 100000 in
theorem q128 {s : State} {a : Array Value} (h : mT s) : (Jvm.Cond.fieldLink "ShareVault$Building" (38 : Nat) "ShareVault$Building" "alarmCount" "I").before a s = true := h _ (tin1 (List.mem_of_getElem? (l := tables_1_1) (i := 128) rfl)) rfl a
set_option maxRecDepth 100000 in
theorem q129 {s : State} {a : Array Value} (h : mT s) : (Jvm.Cond.fieldLink "ShareVault$State" (162 : Nat) "ShareVault$Building" "alarmCount" "I").before a s = true := h _ (tin1 (List.mem_of_getElem? (l := tables_1_1) (i := 129) rfl)) rfl a
set_option maxRecDepth 100000 in
theorem q130 {s : State} {a : Array Value} (h : mT s) : (Jvm.Cond.fieldLink "ShareVault" (245 : Nat) "ShareVault$Building" "alarmCount" "I").before a s = true := h _ (tin1 (List.mem_of_getElem? (l := tables_1_1) (i := 130) rfl)) rfl a
set_option maxRecDepth 100000 in
theorem q131 {s : State} {a : Array Value} (h : mT s) : (Jvm.Cond.fieldLink "ShareVault$Building" (41 : Nat) "ShareVault$Building" "guardCount" "I").before a s = true := h _ (tin1 (List.mem_of_getElem? (l := tables_1_1) (i := 131) rfl)) rfl a
set_option maxRecDepth 100000 in
theorem q132 {s : State} {a : Array Value} (h : mT s) : (Jvm.Cond.fieldLink "ShareVault$State" (69 : Nat) "ShareVault$Building" "guardCount" "I").before a s = true := h _ (tin1 (List.mem_of_getElem? (l := tables_1_1) (i := 132) rfl)) rfl a
set_option maxRecDepth 100000 in
theorem q133 {s : State} {a : Array Value} (h : mT s) : (Jvm.Cond.fieldLink "ShareVault" (201 : Nat) "ShareVault$Building" "guardCount" "I").before a s = true := h _ (tin1 (List.mem_of_getElem? (l := tables_1_1) (i := 133) rfl)) rfl a
set_option maxRecDepth 100000 in
theorem q134 {s : State} {a : Array Value} (h : mT s) : (Jvm.Cond.fieldLink "ShareVault$Building" (18 : Nat) "ShareVault$Building" "guardZones" "[I").before a s = true := h _ (tin1 (List.mem_of_getElem? (l := tables_1_1) (i := 134) rfl)) rfl a
set_option maxRecDepth 100000 in
theorem q135 {s : State} {a : Array Value} (h : mT s) : (Jvm.Cond.fieldLink "ShareVault" (207 : Nat) "ShareVault$Building" "guardZones" "[I").before a s = true := h _ (tin1 (List.mem_of_getElem? (l := tables_1_1) (i := 135) rfl)) rfl a
set_option maxRecDepth 100000 in
theorem q136 {s : State} {a : Array Value} (h : mT s) : (Jvm.Cond.fieldLink "ShareVault$Building" (21 : Nat) "ShareVault$Building" "forwards" "[Z").before a s = true := h _ (tin1 (List.mem_of_getElem? (l := tables_1_1) (i := 136) rfl)) rfl a
set_option maxRecDepth 100000 in
theorem q137 {s : State} {a : Array Value} (h : mT s) : (Jvm.Cond.fieldLink "ShareVault$State" (149 : Nat) "ShareVault$Building" "forwards" "[Z").before a s = true := h _ (tin1 (List.mem_of_getElem? (l := tables_1_1) (i := 137) rfl)) rfl a
set_option maxRecDepth 100000 in
theorem q138 {s : State} {a : Array Value} (h : mT s) : (Jvm.Cond.fieldLink "ShareVault" (210 : Nat) "ShareVault$Building" "forwards" "[Z").before a s = true := h _ (tin1 (List.mem_of_getElem? (l := tables_1_1) (i := 138) rfl)) rfl a
set_option maxRecDepth 100000 in
theorem q139 {s : State} {a : Array Value} (h : mT s) : (Jvm.Cond.fieldLink "ShareVault$Building" (25 : Nat) "ShareVault$Building" "periods" "[I").before a s = true := h _ (tin1 (List.mem_of_getElem? (l := tables_1_1) (i := 139) rfl)) rfl a
set_option maxRecDepth 100000 in
theorem q164 {s : State} {a : Array Value} (h : mT s) : (Jvm.Cond.fieldLink "ShareVault$Journal" (22 : Nat) "ShareVault$Journal" "count" "I").before a s = true := h _ (tin1 (List.mem_of_getElem? (l := tables_1_1) (i := 164) rfl)) rfl a
set_option maxRecDepth 100000 in
theorem q165 {s : State} {a : Array Value} (h : mT s) : (Jvm.Cond.fieldLink "ShareVault" (263 : Nat) "ShareVault$Journal" "count" "I").before a s = true := h _ (tin1 (List.mem_of_getElem? (l := tables_1_1) (i := 165) rfl)) rfl a
set_option maxRecDepth 100000 in
theorem q166 {s : State} {a : Array Value} (h : mT s) : (Jvm.Cond.fieldLink "ShareVault$Journal" (9 : Nat) "ShareVault$Journal" "hours" "[I").before a s = true := h _ (tin1 (List.mem_of_getElem? (l := tables_1_1) (i := 166) rfl)) rfl a
set_option maxRecDepth 100000 in
theorem q167 {s : State} {a : Array Value} (h : mT s) : (Jvm.Cond.fieldLink "ShareVault" (271 : Nat) "ShareVault$Journal" "hours" "[I").before a s = true := h _ (tin1 (List.mem_of_getElem? (l := tables_1_1) (i := 167) rfl)) rfl a
set_option maxRecDepth 100000 in
theorem q168 {s : State} {a : Array Value} (h : mT s) : (Jvm.Cond.fieldLink "ShareVault$Journal" (15 : Nat) "ShareVault$Journal" "kinds" "[C").before a s = true := h _ (tin1 (List.mem_of_getElem? (l := tables_1_1) (i := 168) rfl)) rfl a
set_option maxRecDepth 100000 in
theorem q169 {s : State} {a : Array Value} (h : mT s) : (Jvm.Cond.fieldLink "ShareVault" (274 : Nat) "ShareVault$Journal" "kinds" "[C").before a s = true := h _ (tin1 (List.mem_of_getElem? (l := tables_1_1) (i := 169) rfl)) rfl a
set_option maxRecDepth 100000 in
theorem q170 {s : State} {a : Array Value} (h : mT s) : (Jvm.Cond.fieldLink "ShareVault$Journal" (19 : Nat) "ShareVault$Journal" "details" "[I").before a s = true := h _ (tin1 (List.mem_of_getElem? (l := tables_1_1) (i := 170) rfl)) rfl a
set_option maxRecDepth 100000 in
theorem q171 {s : State} {a : Array Value} (h : mT s) : (Jvm.Cond.fieldLink "ShareVault" (278 : Nat) "ShareVault$Journal" "details" "[I").before a s = true := h _ (tin1 (List.mem_of_getElem? (l := tables_1_1) (i := 171) rfl)) rfl a
set_option maxRecDepth 100000 in
theorem q182 {s : State} {a : Array Value} (h : mT s) : (Jvm.Cond.fieldLink "ShareVault$State" (12 : Nat) "ShareVault$State" "keys" "LShareVault$Keys;").before a s = true := h _ (tin1 (List.mem_of_getElem? (l := tables_1_1) (i := 182) rfl)) rfl a
set_option maxRecDepth 100000 in
theorem q183 {s : State} {a : Array Value} (h : mT s) : (Jvm.Cond.fieldLink "ShareVault" (115 : Nat) "ShareVault$State" "keys" "LShareVault$Keys;").before a s = true := h _ (tin1 (List.mem_of_getElem? (l := tables_1_1) (i := 183) rfl)) rfl a
set_option maxRecDepth 100000 in
theorem q184 {s : State} {a : Array Value} (h : mT s) : (Jvm.Cond.fieldLink "ShareVault$State" (21 : Nat) "ShareVault$State" "door" "LShareVault$Door;").before a s = true := h _ (tin1 (List.mem_of_getElem? (l := tables_1_1) (i := 184) rfl)) rfl a
set_option maxRecDepth 100000 in
theorem q185 {s : State} {a : Array Value} (h : mT s) : (Jvm.Cond.fieldLink "ShareVault" (186 : Nat) "ShareVault$State" "door" "LShareVault$Door;").before a s = true := h _ (tin1 (List.mem_of_getElem? (l := tables_1_1) (i := 185) rfl)) rfl a
set_option maxRecDepth 100000 in
theorem q186 {s : State} {a : Array Value} (h : mT s) : (Jvm.Cond.fieldLink "ShareVault$State" (28 : Nat) "ShareVault$State" "building" "LShareVault$Building;").before a s = true := h _ (tin1 (List.mem_of_getElem? (l := tables_1_1) (i := 186) rfl)) rfl a
set_option maxRecDepth 100000 in
theorem q187 {s : State} {a : Array Value} (h : mT s) : (Jvm.Cond.fieldLink "ShareVault" (109 : Nat) "ShareVault$State" "building" "LShareVault$Building;").before a s = true := h _ (tin1 (List.mem_of_getElem? (l := tables_1_1) (i := 187) rfl)) rfl a
set_option maxRecDepth 100000 in
theorem q188 {s : State} {a : Array Value} (h : mT s) : (Jvm.Cond.fieldLink "ShareVault$State" (35 : Nat) "ShareVault$State" "journal" "LShareVault$Journal;").before a s = true := h _ (tin1 (List.mem_of_getElem? (l := tables_1_1) (i := 188) rfl)) rfl a
set_option maxRecDepth 100000 in
theorem q189 {s : State} {a : Array Value} (h : mT s) : (Jvm.Cond.fieldLink "ShareVault" (259 : Nat) "ShareVault$State" "journal" "LShareVault$Journal;").before a s = true := h _ (tin1 (List.mem_of_getElem? (l := tables_1_1) (i := 189) rfl)) rfl a
set_option maxRecDepth 100000 in
theorem q190 {s : State} {a : Array Value} (h : mT s) : (Jvm.Cond.fieldLink "ShareVault$State" (79 : Nat) "ShareVault$State" "answer" "I").before a s = true := h _ (tin1 (List.mem_of_getElem? (l := tables_1_1) (i := 190) rfl)) rfl a
set_option maxRecDepth 100000 in
theorem q191 {s : State} {a : Array Value} (h : mT s) : (Jvm.Cond.fieldLink "ShareVault" (403 : Nat) "ShareVault$State" "answer" "I").before a s = true := h _ (tin1 (List.mem_of_getElem? (l := tables_1_1) (i := 191) rfl)) rfl a
set_option maxRecDepth 100000 in
theorem q212 {s : State} {a : Array Value} (h : mT s) : (Jvm.Cond.fieldLink "ShareVault$History" (13 : Nat) "ShareVault$History" "states" "[LShareVault$State;").before a s = true := h _ (tin1 (List.mem_of_getElem? (l := tables_1_1) (i := 212) rfl)) rfl a
set_option maxRecDepth 100000 in
theorem q213 {s : State} {a : Array Value} (h : mT s) : (Jvm.Cond.fieldLink "ShareVault$History" (18 : Nat) "ShareVault$History" "next" "I").before a s = true := h _ (tin1 (List.mem_of_getElem? (l := tables_1_1) (i := 213) rfl)) rfl a
set_option maxRecDepth 100000 in
theorem q214 {s : State} {a : Array Value} (h : mT s) : (Jvm.Cond.fieldLink "ShareVault$History" (26 : Nat) "ShareVault$History" "count" "I").before a s = true := h _ (tin1 (List.mem_of_getElem? (l := tables_1_1) (i := 214) rfl)) rfl a
set_option maxRecDepth 100000 in
theorem q215 {s : State} {a : Array Value} (h : mT s) : (Jvm.Cond.fieldLink "ShareVault" (382 : Nat) "ShareVault$History" "count" "I").before a s = true := h _ (tin1 (List.mem_of_getElem? (l := tables_1_1) (i := 215) rfl)) rfl a
set_option maxRecDepth 100000 in
theorem q233 {s : State} {a : Array Value} (h : mT s) : (Jvm.Cond.fieldLink "ShareVault$Solver" (11 : Nat) "ShareVault$Solver" "equations" "[[I").before a s = true := h _ (tin1 (List.mem_of_getElem? (l := tables_1_1) (i := 233) rfl)) rfl a
set_option maxRecDepth 100000 in
theorem q234 {s : State} {a : Array Value} (h : mT s) : (Jvm.Cond.fieldLink "ShareVault$Solver" (16 : Nat) "ShareVault$Solver" "polynomial" "[I").before a s = true := h _ (tin1 (List.mem_of_getElem? (l := tables_1_1) (i := 234) rfl)) rfl a
set_option maxRecDepth 100000 in
theorem q235 {s : State} {a : Array Value} (h : mT s) : (Jvm.Cond.fieldLink "ShareVault$Solver" (20 : Nat) "ShareVault$Solver" "chosen" "[I").before a s = true := h _ (tin1 (List.mem_of_getElem? (l := tables_1_1) (i := 235) rfl)) rfl a
set_option maxRecDepth 100000 in
theorem q252 {s : State} {a : Array Value} (h : mT s) : (Jvm.Cond.fieldLink "ShareVault$Commands" (9 : Nat) "ShareVault$Commands" "signs" "[C").before a s = true := h _ (tin2 (List.mem_of_getElem? (l := tables_1_2) (i := 12) rfl)) rfl a
set_option maxRecDepth 100000 in
theorem q253 {s : State} {a : Array Value} (h : mT s) : (Jvm.Cond.fieldLink "ShareVault$Commands" (26 : Nat) "ShareVault$Commands" "length" "I").before a s = true := h _ (tin2 (List.mem_of_getElem? (l := tables_1_2) (i := 13) rfl)) rfl a
set_option maxRecDepth 100000 in
theorem q254 {s : State} {a : Array Value} (h : mT s) : (Jvm.Cond.fieldLink "ShareVault" (306 : Nat) "ShareVault$Commands" "length" "I").before a s = true := h _ (tin2 (List.mem_of_getElem? (l := tables_1_2) (i := 14) rfl)) rfl a
set_option maxRecDepth 100000 in
theorem q255 {s : State} {a : Array Value} (h : mT s) : (Jvm.Cond.fieldLink "ShareVault$Commands" (30 : Nat) "ShareVault$Commands" "at" "I").before a s = true := h _ (tin2 (List.mem_of_getElem? (l := tables_1_2) (i := 15) rfl)) rfl a
set_option maxRecDepth 100000 in
theorem q256 {s : State} {a : Array Value} (h : mT s) : (Jvm.Cond.fieldLink "ShareVault$Commands" (33 : Nat) "ShareVault$Commands" "count" "I").before a s = true := h _ (tin2 (List.mem_of_getElem? (l := tables_1_2) (i := 16) rfl)) rfl a
set_option maxRecDepth 100000 in
theorem q257 {s : State} {a : Array Value} (h : mT s) : (Jvm.Cond.fieldLink "ShareVault" (326 : Nat) "ShareVault$Commands" "count" "I").before a s = true := h _ (tin2 (List.mem_of_getElem? (l := tables_1_2) (i := 17) rfl)) rfl a
set_option maxRecDepth 100000 in
theorem q258 {s : State} {a : Array Value} (h : mT s) : (Jvm.Cond.fieldLink "ShareVault$Commands" (17 : Nat) "ShareVault$Commands" "words" "[LShareVault$Word;").before a s = true := h _ (tin2 (List.mem_of_getElem? (l := tables_1_2) (i := 18) rfl)) rfl a
set_option maxRecDepth 100000 in
theorem q259 {s : State} {a : Array Value} (h : mT s) : (Jvm.Cond.fieldLink "ShareVault" (327 : Nat) "ShareVault$Commands" "words" "[LShareVault$Word;").before a s = true := h _ (tin2 (List.mem_of_getElem? (l := tables_1_2) (i := 19) rfl)) rfl a
set_option maxRecDepth 100000 in
theorem q260 {s : State} {a : Array Value} (h : mT s) : (Jvm.Cond.fieldLink "ShareVault$Commands" (23 : Nat) "ShareVault$Commands" "numbers" "[[I").before a s = true := h _ (tin2 (List.mem_of_getElem? (l := tables_1_2) (i := 20) rfl)) rfl a
set_option maxRecDepth 100000 in
theorem q261 {s : State} {a : Array Value} (h : mT s) : (Jvm.Cond.fieldLink "ShareVault" (331 : Nat) "ShareVault$Commands" "numbers" "[[I").before a s = true := h _ (tin2 (List.mem_of_getElem? (l := tables_1_2) (i := 21) rfl)) rfl a
set_option maxRecDepth 100000 in
theorem q262 {s : State} {a : Array Value} (h : mT s) : (Jvm.Cond.fieldLink "ShareVault$Commands" (48 : Nat) "ShareVault$Commands" "numberCount" "I").before a s = true := h _ (tin2 (List.mem_of_getElem? (l := tables_1_2) (i := 22) rfl)) rfl a
set_option maxRecDepth 100000 in
theorem q284 {s : State} {a : Array Value} (h : mT s) : (Jvm.Cond.fieldLink "ShareVault$Output" (9 : Nat) "ShareVault$Output" "signs" "[C").before a s = true := h _ (tin2 (List.mem_of_getElem? (l := tables_1_2) (i := 44) rfl)) rfl a
set_option maxRecDepth 100000 in
theorem q285 {s : State} {a : Array Value} (h : mT s) : (Jvm.Cond.fieldLink "ShareVault" (379 : Nat) "ShareVault$Output" "signs" "[C").before a s = true := h _ (tin2 (List.mem_of_getElem? (l := tables_1_2) (i := 45) rfl)) rfl a
set_option maxRecDepth 100000 in
theorem q286 {s : State} {a : Array Value} (h : mT s) : (Jvm.Cond.fieldLink "ShareVault$Output" (15 : Nat) "ShareVault$Output" "length" "I").before a s = true := h _ (tin2 (List.mem_of_getElem? (l := tables_1_2) (i := 46) rfl)) rfl a
set_option maxRecDepth 100000 in
theorem q287 {s : State} {a : Array Value} (h : mT s) : (Jvm.Cond.fieldLink "ShareVault" (369 : Nat) "ShareVault$Output" "length" "I").before a s = true := h _ (tin2 (List.mem_of_getElem? (l := tables_1_2) (i := 47) rfl)) rfl a
set_option maxRecDepth 100000 in
theorem q293 {s : State} {a : Array Value} (h : mT s) : (Jvm.Cond.fieldLink "ShareVault" (10 : Nat) "ShareVault" "state" "LShareVault$State;").before a s = true := h _ (tin2 (List.mem_of_getElem? (l := tables_1_2) (i := 53) rfl)) rfl a
set_option maxRecDepth 100000 in
theorem q294 {s : State} {a : Array Value} (h : mT s) : (Jvm.Cond.fieldLink "ShareVault" (19 : Nat) "ShareVault" "history" "LShareVault$History;").before a s = true := h _ (tin2 (List.mem_of_getElem? (l := tables_1_2) (i := 54) rfl)) rfl a
set_option maxRecDepth 100000 in
theorem q295 {s : State} {a : Array Value} (h : mT s) : (Jvm.Cond.fieldLink "ShareVault" (23 : Nat) "ShareVault" "saved" "LShareVault$State;").before a s = true := h _ (tin2 (List.mem_of_getElem? (l := tables_1_2) (i := 55) rfl)) rfl a
set_option maxRecDepth 100000 in
theorem q296 {s : State} {a : Array Value} (h : mT s) : (Jvm.Cond.fieldLink "ShareVault" (388 : Nat) "ShareVault" "isSaved" "Z").before a s = true := h _ (tin2 (List.mem_of_getElem? (l := tables_1_2) (i := 56) rfl)) rfl a
set_option maxRecDepth 100000 in
theorem q297 {s : State} {a : Array Value} (h : mT s) : (Jvm.Cond.fieldLink "ShareVault" (29 : Nat) "ShareVault" "forecast" "LShareVault$Building;").before a s = true := h _ (tin2 (List.mem_of_getElem? (l := tables_1_2) (i := 57) rfl)) rfl a
set_option maxRecDepth 100000 in
theorem q298 {s : State} {a : Array Value} (h : mT s) : (Jvm.Cond.fieldLink "ShareVault" (36 : Nat) "ShareVault" "solver" "LShareVault$Solver;").before a s = true := h _ (tin2 (List.mem_of_getElem? (l := tables_1_2) (i := 58) rfl)) rfl a
set_option maxRecDepth 100000 in
theorem q299 {s : State} {a : Array Value} (h : mT s) : (Jvm.Cond.fieldLink "ShareVault" (43 : Nat) "ShareVault" "commands" "LShareVault$Commands;").before a s = true := h _ (tin2 (List.mem_of_getElem? (l := tables_1_2) (i := 59) rfl)) rfl a
set_option maxRecDepth 100000 in
theorem q300 {s : State} {a : Array Value} (h : mT s) : (Jvm.Cond.fieldLink "ShareVault" (50 : Nat) "ShareVault" "output" "LShareVault$Output;").before a s = true := h _ (tin2 (List.mem_of_getElem? (l := tables_1_2) (i := 60) rfl)) rfl a
set_option maxRecDepth 100000 in
theorem q301 {s : State} {a : Array Value} (h : mT s) : (Jvm.Cond.fieldLink "ShareVault" (54 : Nat) "ShareVault" "lastReason" "I").before a s = true := h _ (tin2 (List.mem_of_getElem? (l := tables_1_2) (i := 61) rfl)) rfl a
set_option maxRecDepth 100000 in
theorem q302 {s : State} {a : Array Value} (h : mT s) : (Jvm.Cond.fieldLink "ShareVault" (301 : Nat) "ShareVault" "lastDetail" "I").before a s = true := h _ (tin2 (List.mem_of_getElem? (l := tables_1_2) (i := 62) rfl)) rfl a
set_option maxRecDepth 100000 in
theorem q303 {s : State} {a : Array Value} (h : mT s) : (Jvm.Cond.fieldLink "ShareVault" (58 : Nat) "ShareVault" "lastCause" "I").before a s = true := h _ (tin2 (List.mem_of_getElem? (l := tables_1_2) (i := 63) rfl)) rfl a
set_option maxRecDepth 100000 in
theorem q304 {s : State} {a : Array Value} (h : mT s) : (Jvm.Cond.fieldLink "ShareVault" (61 : Nat) "ShareVault" "lastError" "I").before a s = true := h _ (tin2 (List.mem_of_getElem? (l := tables_1_2) (i := 64) rfl)) rfl a
set_option maxRecDepth 100000 in
theorem q378 {s : State} {a : Array Value} (h : mT s) : (Jvm.Cond.methodLink "ShareVault" (281 : Nat) ({ cls := "ShareVault$Building", name := "sumOf", desc := "([I)I" } : Jvm.MethodName)).before a s = true := h _ (tin2 (List.mem_of_getElem? (l := tables_1_2) (i := 138) rfl)) rfl a
set_option maxRecDepth 100000 in
theorem q379 {s : State} {a : Array Value} (h : mT s) : (Jvm.Cond.static ({ cls := "ShareVault$Building", name := "sumOf", desc := "([I)I" } : Jvm.MethodName)).before a s = true := h _ (tin2 (List.mem_of_getElem? (l := tables_1_2) (i := 139) rfl)) rfl a
set_option maxRecDepth 100000 in
theorem q381 {s : State} {a : Array Value} (h : mT s) : (Jvm.Cond.constantDouble "ShareVault" (285 : Nat) (4620693217682128896 : UInt64)).before a s = true := h _ (tin2 (List.mem_of_getElem? (l := tables_1_2) (i := 141) rfl)) rfl a
set_option maxRecDepth 100000 in
theorem q386 {s : State} {a : Array Value} (h : mT s) : (Jvm.Cond.methodLink "ShareVault" (292 : Nat) ({ cls := "ShareVault", name := "doVisitsMatch", desc := "()Z" } : Jvm.MethodName)).before a s = true := h _ (tin2 (List.mem_of_getElem? (l := tables_1_2) (i := 146) rfl)) rfl a
set_option maxRecDepth 100000 in
theorem q388 {s : State} {a : Array Value} (h : mT s) : (Jvm.Cond.instanceMethod ({ cls := "ShareVault", name := "doVisitsMatch", desc := "()Z" } : Jvm.MethodName)).before a s = true := h _ (tin2 (List.mem_of_getElem? (l := tables_1_2) (i := 148) rfl)) rfl a
set_option maxRecDepth 100000 in
theorem q390 {s : State} {a : Array Value} (h : mT s) : (Jvm.Cond.methodLink "ShareVault" (230 : Nat) ({ cls := "ShareVault", name := "visitByHours", desc := "(I)I" } : Jvm.MethodName)).before a s = true := h _ (tin2 (List.mem_of_getElem? (l := tables_1_2) (i := 150) rfl)) rfl a
set_option maxRecDepth 100000 in
theorem q392 {s : State} {a : Array Value} (h : mT s) : (Jvm.Cond.instanceMethod ({ cls := "ShareVault", name := "visitByHours", desc := "(I)I" } : Jvm.MethodName)).before a s = true := h _ (tin2 (List.mem_of_getElem? (l := tables_1_2) (i := 152) rfl)) rfl a
set_option maxRecDepth 100000 in
theorem q394 {s : State} {a : Array Value} (h : mT s) : (Jvm.Cond.methodLink "ShareVault" (238 : Nat) ({ cls := "ShareVault$Building", name := "copyFrom", desc := "(LShareVault$Building;)V" } : Jvm.MethodName)).before a s = true := h _ (tin2 (List.mem_of_getElem? (l := tables_1_2) (i := 154) rfl)) rfl a
set_option maxRecDepth 100000 in
theorem q395 {s : State} {a : Array Value} (h : mT s) : (Jvm.Cond.instanceMethod ({ cls := "ShareVault$Building", name := "copyFrom", desc := "(LShareVault$Building;)V" } : Jvm.MethodName)).before a s = true := h _ (tin2 (List.mem_of_getElem? (l := tables_1_2) (i := 155) rfl)) rfl a
set_option maxRecDepth 100000 in
theorem q396 {s : State} {a : Array Value} (h : mT s) : (Jvm.Cond.selects "ShareVault$Building" ({ cls := "ShareVault$Building", name := "copyFrom", desc := "(LShareVault$Building;)V" } : Jvm.MethodName) ({ cls := "ShareVault$Building", name := "copyFrom", desc := "(LShareVault$Building;)V" } : Jvm.MethodName)).before a s = true := h _ (tin2 (List.mem_of_getElem? (l := tables_1_2) (i := 156) rfl)) rfl a
set_option maxRecDepth 100000 in
theorem q398 {s : State} {a : Array Value} (h : mT s) : (Jvm.Cond.methodLink "ShareVault$Building" (32 : Nat) ({ cls := "java/lang/System", name := "arraycopy", desc := "(Ljava/lang/Object;ILjava/lang/Object;II)V" } : Jvm.MethodName)).before a s = true := h _ (tin2 (List.mem_of_getElem? (l := tables_1_2) (i := 158) rfl)) rfl a
set_option maxRecDepth 100000 in
theorem q399 {s : State} {a : Array Value} (h : mT s) : (Jvm.Cond.static ({ cls := "java/lang/System", name := "arraycopy", desc := "(Ljava/lang/Object;ILjava/lang/Object;II)V" } : Jvm.MethodName)).before a s = true := h _ (tin2 (List.mem_of_getElem? (l := tables_1_2) (i := 159) rfl)) rfl a
set_option maxRecDepth 100000 in
theorem q400 {s : State} {a : Array Value} (h : mT s) : (Jvm.Cond.native ({ cls := "java/lang/System", name := "arraycopy", desc := "(Ljava/lang/Object;ILjava/lang/Object;II)V" } : Jvm.MethodName)).before a s = true := h _ (tin2 (List.mem_of_getElem? (l := tables_1_2) (i := 160) rfl)) rfl a
set_option maxRecDepth 100000 in
theorem q401 {s : State} {a : Array Value} (h : mT s) : (Jvm.Cond.methodLink "ShareVault" (220 : Nat) ({ cls := "ShareVault$Building", name := "hasGuardIn", desc := "(I)Z" } : Jvm.MethodName)).before a s = true := h _ (tin2 (List.mem_of_getElem? (l := tables_1_2) (i := 161) rfl)) rfl a
set_option maxRecDepth 100000 in
theorem q402 {s : State} {a : Array Value} (h : mT s) : (Jvm.Cond.instanceMethod ({ cls := "ShareVault$Building", name := "hasGuardIn", desc := "(I)Z" } : Jvm.MethodName)).before a s = true := h _ (tin2 (List.mem_of_getElem? (l := tables_1_2) (i := 162) rfl)) rfl a
set_option maxRecDepth 100000 in
theorem q403 {s : State} {a : Array Value} (h : mT s) : (Jvm.Cond.selects "ShareVault$Building" ({ cls := "ShareVault$Building", name := "hasGuardIn", desc := "(I)Z" } : Jvm.MethodName) ({ cls := "ShareVault$Building", name := "hasGuardIn", desc := "(I)Z" } : Jvm.MethodName)).before a s = true := h _ (tin2 (List.mem_of_getElem? (l := tables_1_2) (i := 163) rfl)) rfl a
set_option maxRecDepth 100000 in
theorem q405 {s : State} {a : Array Value} (h : mT s) : (Jvm.Cond.methodLink "ShareVault" (434 : Nat) ({ cls := "ShareVault$Building", name := "beginHour", desc := "()V" } : Jvm.MethodName)).before a s = true := h _ (tin2 (List.mem_of_getElem? (l := tables_1_2) (i := 165) rfl)) rfl a
set_option maxRecDepth 100000 in
theorem q406 {s : State} {a : Array Value} (h : mT s) : (Jvm.Cond.instanceMethod ({ cls := "ShareVault$Building", name := "beginHour", desc := "()V" } : Jvm.MethodName)).before a s = true := h _ (tin2 (List.mem_of_getElem? (l := tables_1_2) (i := 166) rfl)) rfl a
set_option maxRecDepth 100000 in
theorem q407 {s : State} {a : Array Value} (h : mT s) : (Jvm.Cond.selects "ShareVault$Building" ({ cls := "ShareVault$Building", name := "beginHour", desc := "()V" } : Jvm.MethodName) ({ cls := "ShareVault$Building", name := "beginHour", desc := "()V" } : Jvm.MethodName)).before a s = true := h _ (tin2 (List.mem_of_getElem? (l := tables_1_2) (i := 167) rfl)) rfl a
set_option maxRecDepth 100000 in
theorem q409 {s : State} {a : Array Value} (h : mT s) : (Jvm.Cond.methodLink "ShareVault" (233 : Nat) ({ cls := "ShareVault$Building", name := "visitByRemainders", desc := "(I)I" } : Jvm.MethodName)).before a s = true := h _ (tin2 (List.mem_of_getElem? (l := tables_1_2) (i := 169) rfl)) rfl a
set_option maxRecDepth 100000 in
theorem q410 {s : State} {a : Array Value} (h : mT s) : (Jvm.Cond.instanceMethod ({ cls := "ShareVault$Building", name := "visitByRemainders", desc := "(I)I" } : Jvm.MethodName)).before a s = true := h _ (tin2 (List.mem_of_getElem? (l := tables_1_2) (i := 170) rfl)) rfl a
set_option maxRecDepth 100000 in
theorem q411 {s : State} {a : Array Value} (h : mT s) : (Jvm.Cond.selects "ShareVault$Building" ({ cls := "ShareVault$Building", name := "visitByRemainders", desc := "(I)I" } : Jvm.MethodName) ({ cls := "ShareVault$Building", name := "visitByRemainders", desc := "(I)I" } : Jvm.MethodName)).before a s = true := h _ (tin2 (List.mem_of_getElem? (l := tables_1_2) (i := 171) rfl)) rfl a
set_option maxRecDepth 100000 in
theorem q413 {s : State} {a : Array Value} (h : mT s) : (Jvm.Cond.methodLink "ShareVault$Building" (54 : Nat) ({ cls := "ShareVault$Building", name := "visitOf", desc := "(II)I" } : Jvm.MethodName)).before a s = true := h _ (tin2 (List.mem_of_getElem? (l := tables_1_2) (i := 173) rfl)) rfl a
set_option maxRecDepth 100000 in
theorem q415 {s : State} {a : Array Value} (h : mT s) : (Jvm.Cond.instanceMethod ({ cls := "ShareVault$Building", name := "visitOf", desc := "(II)I" } : Jvm.MethodName)).before a s = true := h _ (tin2 (List.mem_of_getElem? (l := tables_1_2) (i := 175) rfl)) rfl a
set_option maxRecDepth 100000 in
theorem q417 {s : State} {a : Array Value} (h : mT s) : (Jvm.Cond.methodLink "ShareVault$Building" (63 : Nat) ({ cls := "java/lang/Math", name := "floorMod", desc := "(II)I" } : Jvm.MethodName)).before a s = true := h _ (tin2 (List.mem_of_getElem? (l := tables_1_2) (i := 177) rfl)) rfl a
set_option maxRecDepth 100000 in
theorem q418 {s : State} {a : Array Value} (h : mT s) : (Jvm.Cond.static ({ cls := "java/lang/Math", name := "floorMod", desc := "(II)I" } : Jvm.MethodName)).before a s = true := h _ (tin2 (List.mem_of_getElem? (l := tables_1_2) (i := 178) rfl)) rfl a
set_option maxRecDepth 100000 in
theorem q420 {s : State} {a : Array Value} (h : mT s) : (Jvm.Cond.methodLink "ShareVault$Building" (58 : Nat) ({ cls := "java/lang/Math", name := "min", desc := "(II)I" } : Jvm.MethodName)).before a s = true := h _ (tin2 (List.mem_of_getElem? (l := tables_1_2) (i := 180) rfl)) rfl a
set_option maxRecDepth 100000 in
theorem q421 {s : State} {a : Array Value} (h : mT s) : (Jvm.Cond.static ({ cls := "java/lang/Math", name := "min", desc := "(II)I" } : Jvm.MethodName)).before a s = true := h _ (tin2 (List.mem_of_getElem? (l := tables_1_2) (i := 181) rfl)) rfl a
set_option maxRecDepth 100000 in
theorem q422 {s : State} {a : Array Value} (h : mT s) : (Jvm.Cond.code ({ cls := "java/lang/Math", name := "min", desc := "(II)I" } : Jvm.MethodName) prog_26_method_69_code (2 : Nat) (Option.some Jvm.ClassFile.FieldType.int)).before a s = true := h _ (tin2 (List.mem_of_getElem? (l := tables_1_2) (i := 182) rfl)) rfl a
set_option maxRecDepth 100000 in
theorem q423 {s : State} {a : Array Value} (h : mT s) : (Jvm.Cond.methodLink "ShareVault" (295 : Nat) ({ cls := "ShareVault", name := "doTellingsMatch", desc := "()Z" } : Jvm.MethodName)).before a s = true := h _ (tin2 (List.mem_of_getElem? (l := tables_1_2) (i := 183) rfl)) rfl a
set_option maxRecDepth 100000 in
theorem q425 {s : State} {a : Array Value} (h : mT s) : (Jvm.Cond.instanceMethod ({ cls := "ShareVault", name := "doTellingsMatch", desc := "()Z" } : Jvm.MethodName)).before a s = true := h _ (tin2 (List.mem_of_getElem? (l := tables_1_2) (i := 185) rfl)) rfl a
set_option maxRecDepth 100000 in
theorem q427 {s : State} {a : Array Value} (h : mT s) : (Jvm.Cond.methodLink "ShareVault" (425 : Nat) ({ cls := "ShareVault$Keys", name := "areEnough", desc := "()Z" } : Jvm.MethodName)).before a s = true := h _ (tin2 (List.mem_of_getElem? (l := tables_1_2) (i := 187) rfl)) rfl a
set_option maxRecDepth 100000 in
theorem q428 {s : State} {a : Array Value} (h : mT s) : (Jvm.Cond.instanceMethod ({ cls := "ShareVault$Keys", name := "areEnough", desc := "()Z" } : Jvm.MethodName)).before a s = true := h _ (tin2 (List.mem_of_getElem? (l := tables_1_2) (i := 188) rfl)) rfl a
set_option maxRecDepth 100000 in
theorem q429 {s : State} {a : Array Value} (h : mT s) : (Jvm.Cond.selects "ShareVault$Keys" ({ cls := "ShareVault$Keys", name := "areEnough", desc := "()Z" } : Jvm.MethodName) ({ cls := "ShareVault$Keys", name := "areEnough", desc := "()Z" } : Jvm.MethodName)).before a s = true := h _ (tin2 (List.mem_of_getElem? (l := tables_1_2) (i := 189) rfl)) rfl a
set_option maxRecDepth 100000 in
theorem q431 {s : State} {a : Array Value} (h : mT s) : (Jvm.Cond.methodLink "ShareVault" (164 : Nat) ({ cls := "ShareVault$Keys", name := "toldAt", desc := "(I)I" } : Jvm.MethodName)).before a s = true := h _ (tin2 (List.mem_of_getElem? (l := tables_1_2) (i := 191) rfl)) rfl a
set_option maxRecDepth 100000 in
theorem q432 {s : State} {a : Array Value} (h : mT s) : (Jvm.Cond.instanceMethod ({ cls := "ShareVault$Keys", name := "toldAt", desc := "(I)I" } : Jvm.MethodName)).before a s = true := h _ (tin2 (List.mem_of_getElem? (l := tables_1_2) (i := 192) rfl)) rfl a
set_option maxRecDepth 100000 in
theorem q433 {s : State} {a : Array Value} (h : mT s) : (Jvm.Cond.selects "ShareVault$Keys" ({ cls := "ShareVault$Keys", name := "toldAt", desc := "(I)I" } : Jvm.MethodName) ({ cls := "ShareVault$Keys", name := "toldAt", desc := "(I)I" } : Jvm.MethodName)).before a s = true := h _ (tin2 (List.mem_of_getElem? (l := tables_1_2) (i := 193) rfl)) rfl a
set_option maxRecDepth 100000 in
theorem q435 {s : State} {a : Array Value} (h : mT s) : (Jvm.Cond.methodLink "ShareVault$Keys" (52 : Nat) ({ cls := "ShareVault$Keys", name := "valueThrough", desc := "([II)I" } : Jvm.MethodName)).before a s = true := h _ (tin2 (List.mem_of_getElem? (l := tables_1_2) (i := 195) rfl)) rfl a
set_option maxRecDepth 100000 in
theorem q437 {s : State} {a : Array Value} (h : mT s) : (Jvm.Cond.instanceMethod ({ cls := "ShareVault$Keys", name := "valueThrough", desc := "([II)I" } : Jvm.MethodName)).before a s = true := h _ (tin2 (List.mem_of_getElem? (l := tables_1_2) (i := 197) rfl)) rfl a
set_option maxRecDepth 100000 in
theorem q439 {s : State} {a : Array Value} (h : mT s) : (Jvm.Cond.methodLink "ShareVault$Keys" (62 : Nat) ({ cls := "ShareVault$Keys", name := "quotientsOf", desc := "([III)I" } : Jvm.MethodName)).before a s = true := h _ (tin2 (List.mem_of_getElem? (l := tables_1_2) (i := 199) rfl)) rfl a
set_option maxRecDepth 100000 in
theorem q441 {s : State} {a : Array Value} (h : mT s) : (Jvm.Cond.instanceMethod ({ cls := "ShareVault$Keys", name := "quotientsOf", desc := "([III)I" } : Jvm.MethodName)).before a s = true := h _ (tin2 (List.mem_of_getElem? (l := tables_1_2) (i := 201) rfl)) rfl a
set_option maxRecDepth 100000 in
theorem q443 {s : State} {a : Array Value} (h : mT s) : (Jvm.Cond.fieldLinkNest "ShareVault$Keys" (66 : Nat) "ShareVault" "INVERSES" "[I" "ShareVault").before a s = true := h _ (tin2 (List.mem_of_getElem? (l := tables_1_2) (i := 203) rfl)) rfl a
set_option maxRecDepth 100000 in
theorem q445 {s : State} {a : Array Value} (h : mT s) : (Jvm.Cond.methodLink "ShareVault" (167 : Nat) ({ cls := "ShareVault$Solver", name := "secretOf", desc := "(LShareVault$Keys;)I" } : Jvm.MethodName)).before a s = true := h _ (tin2 (List.mem_of_getElem? (l := tables_1_2) (i := 205) rfl)) rfl a
set_option maxRecDepth 100000 in
theorem q446 {s : State} {a : Array Value} (h : mT s) : (Jvm.Cond.instanceMethod ({ cls := "ShareVault$Solver", name := "secretOf", desc := "(LShareVault$Keys;)I" } : Jvm.MethodName)).before a s = true := h _ (tin2 (List.mem_of_getElem? (l := tables_1_2) (i := 206) rfl)) rfl a
set_option maxRecDepth 100000 in
theorem q447 {s : State} {a : Array Value} (h : mT s) : (Jvm.Cond.selects "ShareVault$Solver" ({ cls := "ShareVault$Solver", name := "secretOf", desc := "(LShareVault$Keys;)I" } : Jvm.MethodName) ({ cls := "ShareVault$Solver", name := "secretOf", desc := "(LShareVault$Keys;)I" } : Jvm.MethodName)).before a s = true := h _ (tin2 (List.mem_of_getElem? (l := tables_1_2) (i := 207) rfl)) rfl a
set_option maxRecDepth 100000 in
theorem q449 {s : State} {a : Array Value} (h : mT s) : (Jvm.Cond.methodLink "ShareVault$Solver" (28 : Nat) ({ cls := "ShareVault$Solver", name := "fit", desc := "(LShareVault$Keys;[I)V" } : Jvm.MethodName)).before a s = true := h _ (tin2 (List.mem_of_getElem? (l := tables_1_2) (i := 209) rfl)) rfl a
set_option maxRecDepth 100000 in
theorem q451 {s : State} {a : Array Value} (h : mT s) : (Jvm.Cond.instanceMethod ({ cls := "ShareVault$Solver", name := "fit", desc := "(LShareVault$Keys;[I)V" } : Jvm.MethodName)).before a s = true := h _ (tin2 (List.mem_of_getElem? (l := tables_1_2) (i := 211) rfl)) rfl a
set_option maxRecDepth 100000 in
theorem q453 {s : State} {a : Array Value} (h : mT s) : (Jvm.Cond.methodLink "ShareVault$Solver" (73 : Nat) ({ cls := "ShareVault$Solver", name := "setEquation", desc := "(IIII)V" } : Jvm.MethodName)).before a s = true := h _ (tin2 (List.mem_of_getElem? (l := tables_1_2) (i := 213) rfl)) rfl a
set_option maxRecDepth 100000 in
theorem q455 {s : State} {a : Array Value} (h : mT s) : (Jvm.Cond.instanceMethod ({ cls := "ShareVault$Solver", name := "setEquation", desc := "(IIII)V" } : Jvm.MethodName)).before a s = true := h _ (tin2 (List.mem_of_getElem? (l := tables_1_2) (i := 215) rfl)) rfl a
set_option maxRecDepth 100000 in
theorem q457 {s : State} {a : Array Value} (h : mT s) : (Jvm.Cond.methodLink "ShareVault$Solver" (66 : Nat) ({ cls := "ShareVault$Keys", name := "positionOf", desc := "(I)I" } : Jvm.MethodName)).before a s = true := h _ (tin2 (List.mem_of_getElem? (l := tables_1_2) (i := 217) rfl)) rfl a
set_option maxRecDepth 100000 in
theorem q458 {s : State} {a : Array Value} (h : mT s) : (Jvm.Cond.static ({ cls := "ShareVault$Keys", name := "positionOf", desc := "(I)I" } : Jvm.MethodName)).before a s = true := h _ (tin2 (List.mem_of_getElem? (l := tables_1_2) (i := 218) rfl)) rfl a
set_option maxRecDepth 100000 in
theorem q460 {s : State} {a : Array Value} (h : mT s) : (Jvm.Cond.methodLink "ShareVault$Solver" (77 : Nat) ({ cls := "ShareVault$Solver", name := "eliminate", desc := "(II)V" } : Jvm.MethodName)).before a s = true := h _ (tin2 (List.mem_of_getElem? (l := tables_1_2) (i := 220) rfl)) rfl a
set_option maxRecDepth 100000 in
theorem q462 {s : State} {a : Array Value} (h : mT s) : (Jvm.Cond.instanceMethod ({ cls := "ShareVault$Solver", name := "eliminate", desc := "(II)V" } : Jvm.MethodName)).before a s = true := h _ (tin2 (List.mem_of_getElem? (l := tables_1_2) (i := 222) rfl)) rfl a
set_option maxRecDepth 100000 in
theorem q464 {s : State} {a : Array Value} (h : mT s) : (Jvm.Cond.fieldLinkNest "ShareVault$Solver" (81 : Nat) "ShareVault" "INVERSES" "[I" "ShareVault").before a s = true := h _ (tin2 (List.mem_of_getElem? (l := tables_1_2) (i := 224) rfl)) rfl a
set_option maxRecDepth 100000 in
theorem q465 {s : State} {a : Array Value} (h : mT s) : (Jvm.Cond.methodLink "ShareVault$Solver" (84 : Nat) ({ cls := "ShareVault$Solver", name := "subtract", desc := "([I[III)V" } : Jvm.MethodName)).before a s = true := h _ (tin2 (List.mem_of_getElem? (l := tables_1_2) (i := 225) rfl)) rfl a
set_option maxRecDepth 100000 in
theorem q466 {s : State} {a : Array Value} (h : mT s) : (Jvm.Cond.static ({ cls := "ShareVault$Solver", name := "subtract", desc := "([I[III)V" } : Jvm.MethodName)).before a s = true := h _ (tin2 (List.mem_of_getElem? (l := tables_1_2) (i := 226) rfl)) rfl a
set_option maxRecDepth 100000 in
theorem q468 {s : State} {a : Array Value} (h : mT s) : (Jvm.Cond.methodLink "ShareVault$Solver" (88 : Nat) ({ cls := "java/lang/Math", name := "floorMod", desc := "(II)I" } : Jvm.MethodName)).before a s = true := h _ (tin2 (List.mem_of_getElem? (l := tables_1_2) (i := 228) rfl)) rfl a
set_option maxRecDepth 100000 in
theorem q469 {s : State} {a : Array Value} (h : mT s) : (Jvm.Cond.methodLink "ShareVault" (180 : Nat) ({ cls := "ShareVault$Solver", name := "mostOnCurves", desc := "(LShareVault$Keys;)I" } : Jvm.MethodName)).before a s = true := h _ (tin2 (List.mem_of_getElem? (l := tables_1_2) (i := 229) rfl)) rfl a
set_option maxRecDepth 100000 in
theorem q470 {s : State} {a : Array Value} (h : mT s) : (Jvm.Cond.instanceMethod ({ cls := "ShareVault$Solver", name := "mostOnCurves", desc := "(LShareVault$Keys;)I" } : Jvm.MethodName)).before a s = true := h _ (tin2 (List.mem_of_getElem? (l := tables_1_2) (i := 230) rfl)) rfl a
set_option maxRecDepth 100000 in
theorem q471 {s : State} {a : Array Value} (h : mT s) : (Jvm.Cond.selects "ShareVault$Solver" ({ cls := "ShareVault$Solver", name := "mostOnCurves", desc := "(LShareVault$Keys;)I" } : Jvm.MethodName) ({ cls := "ShareVault$Solver", name := "mostOnCurves", desc := "(LShareVault$Keys;)I" } : Jvm.MethodName)).before a s = true := h _ (tin2 (List.mem_of_getElem? (l := tables_1_2) (i := 231) rfl)) rfl a
set_option maxRecDepth 100000 in
theorem q473 {s : State} {a : Array Value} (h : mT s) : (Jvm.Cond.methodLink "ShareVault$Solver" (36 : Nat) ({ cls := "java/lang/Integer", name := "bitCount", desc := "(I)I" } : Jvm.MethodName)).before a s = true := h _ (tin2 (List.mem_of_getElem? (l := tables_1_2) (i := 233) rfl)) rfl a
set_option maxRecDepth 100000 in
theorem q474 {s : State} {a : Array Value} (h : mT s) : (Jvm.Cond.static ({ cls := "java/lang/Integer", name := "bitCount", desc := "(I)I" } : Jvm.MethodName)).before a s = true := h _ (tin2 (List.mem_of_getElem? (l := tables_1_2) (i := 234) rfl)) rfl a
set_option maxRecDepth 100000 in
theorem q476 {s : State} {a : Array Value} (h : mT s) : (Jvm.Cond.constant "java/lang/Integer" (265 : Nat) (1431655765 : Int32)).before a s = true := h _ (tin2 (List.mem_of_getElem? (l := tables_1_2) (i := 236) rfl)) rfl a
set_option maxRecDepth 100000 in
theorem q477 {s : State} {a : Array Value} (h : mT s) : (Jvm.Cond.constant "java/lang/Integer" (266 : Nat) (858993459 : Int32)).before a s = true := h _ (tin2 (List.mem_of_getElem? (l := tables_1_2) (i := 237) rfl)) rfl a
set_option maxRecDepth 100000 in
theorem q478 {s : State} {a : Array Value} (h : mT s) : (Jvm.Cond.constant "java/lang/Integer" (267 : Nat) (252645135 : Int32)).before a s = true := h _ (tin2 (List.mem_of_getElem? (l := tables_1_2) (i := 238) rfl)) rfl a
set_option maxRecDepth 100000 in
theorem q479 {s : State} {a : Array Value} (h : mT s) : (Jvm.Cond.methodLink "ShareVault$Solver" (45 : Nat) ({ cls := "ShareVault$Solver", name := "choose", desc := "(LShareVault$Keys;I)V" } : Jvm.MethodName)).before a s = true := h _ (tin2 (List.mem_of_getElem? (l := tables_1_2) (i := 239) rfl)) rfl a
set_option maxRecDepth 100000 in
theorem q481 {s : State} {a : Array Value} (h : mT s) : (Jvm.Cond.instanceMethod ({ cls := "ShareVault$Solver", name := "choose", desc := "(LShareVault$Keys;I)V" } : Jvm.MethodName)).before a s = true := h _ (tin3 (List.mem_of_getElem? (l := tables_1_3) (i := 1) rfl)) rfl a
set_option maxRecDepth 100000 in
theorem q483 {s : State} {a : Array Value} (h : mT s) : (Jvm.Cond.methodLink "ShareVault$Solver" (49 : Nat) ({ cls := "ShareVault$Solver", name := "countOnCurve", desc := "(LShareVault$Keys;)I" } : Jvm.MethodName)).before a s = true := h _ (tin3 (List.mem_of_getElem? (l := tables_1_3) (i := 3) rfl)) rfl a
set_option maxRecDepth 100000 in
theorem q485 {s : State} {a : Array Value} (h : mT s) : (Jvm.Cond.instanceMethod ({ cls := "ShareVault$Solver", name := "countOnCurve", desc := "(LShareVault$Keys;)I" } : Jvm.MethodName)).before a s = true := h _ (tin3 (List.mem_of_getElem? (l := tables_1_3) (i := 5) rfl)) rfl a
set_option maxRecDepth 100000 in
theorem q487 {s : State} {a : Array Value} (h : mT s) : (Jvm.Cond.methodLink "ShareVault$Solver" (69 : Nat) ({ cls := "ShareVault$Keys", name := "valueOn", desc := "([II)I" } : Jvm.MethodName)).before a s = true := h _ (tin3 (List.mem_of_getElem? (l := tables_1_3) (i := 7) rfl)) rfl a
set_option maxRecDepth 100000 in
theorem q488 {s : State} {a : Array Value} (h : mT s) : (Jvm.Cond.static ({ cls := "ShareVault$Keys", name := "valueOn", desc := "([II)I" } : Jvm.MethodName)).before a s = true := h _ (tin3 (List.mem_of_getElem? (l := tables_1_3) (i := 8) rfl)) rfl a
set_option maxRecDepth 100000 in
theorem q490 {s : State} {a : Array Value} (h : mT s) : (Jvm.Cond.methodLink "ShareVault$Solver" (53 : Nat) ({ cls := "java/lang/Math", name := "max", desc := "(II)I" } : Jvm.MethodName)).before a s = true := h _ (tin3 (List.mem_of_getElem? (l := tables_1_3) (i := 10) rfl)) rfl a
set_option maxRecDepth 100000 in
theorem q491 {s : State} {a : Array Value} (h : mT s) : (Jvm.Cond.static ({ cls := "java/lang/Math", name := "max", desc := "(II)I" } : Jvm.MethodName)).before a s = true := h _ (tin3 (List.mem_of_getElem? (l := tables_1_3) (i := 11) rfl)) rfl a
set_option maxRecDepth 100000 in
theorem q492 {s : State} {a : Array Value} (h : mT s) : (Jvm.Cond.code ({ cls := "java/lang/Math", name := "max", desc := "(II)I" } : Jvm.MethodName) prog_26_method_65_code (2 : Nat) (Option.some Jvm.ClassFile.FieldType.int)).before a s = true := h _ (tin3 (List.mem_of_getElem? (l := tables_1_3) (i := 12) rfl)) rfl a
set_option maxRecDepth 100000 in
theorem q493 {s : State} {a : Array Value} (h : mT s) : (Jvm.Cond.methodLink "ShareVault" (183 : Nat) ({ cls := "ShareVault$Solver", name := "mostInSets", desc := "(LShareVault$Keys;)I" } : Jvm.MethodName)).before a s = true := h _ (tin3 (List.mem_of_getElem? (l := tables_1_3) (i := 13) rfl)) rfl a
set_option maxRecDepth 100000 in
theorem q494 {s : State} {a : Array Value} (h : mT s) : (Jvm.Cond.instanceMethod ({ cls := "ShareVault$Solver", name := "mostInSets", desc := "(LShareVault$Keys;)I" } : Jvm.MethodName)).before a s = true := h _ (tin3 (List.mem_of_getElem? (l := tables_1_3) (i := 14) rfl)) rfl a
set_option maxRecDepth 100000 in
theorem q495 {s : State} {a : Array Value} (h : mT s) : (Jvm.Cond.selects "ShareVault$Solver" ({ cls := "ShareVault$Solver", name := "mostInSets", desc := "(LShareVault$Keys;)I" } : Jvm.MethodName) ({ cls := "ShareVault$Solver", name := "mostInSets", desc := "(LShareVault$Keys;)I" } : Jvm.MethodName)).before a s = true := h _ (tin3 (List.mem_of_getElem? (l := tables_1_3) (i := 15) rfl)) rfl a
set_option maxRecDepth 100000 in
theorem q497 {s : State} {a : Array Value} (h : mT s) : (Jvm.Cond.methodLink "ShareVault$Solver" (59 : Nat) ({ cls := "ShareVault$Keys", name := "isOneCurve", desc := "([II)Z" } : Jvm.MethodName)).before a s = true := h _ (tin3 (List.mem_of_getElem? (l := tables_1_3) (i := 17) rfl)) rfl a
set_option maxRecDepth 100000 in
theorem q498 {s : State} {a : Array Value} (h : mT s) : (Jvm.Cond.instanceMethod ({ cls := "ShareVault$Keys", name := "isOneCurve", desc := "([II)Z" } : Jvm.MethodName)).before a s = true := h _ (tin3 (List.mem_of_getElem? (l := tables_1_3) (i := 18) rfl)) rfl a
set_option maxRecDepth 100000 in
theorem q499 {s : State} {a : Array Value} (h : mT s) : (Jvm.Cond.selects "ShareVault$Keys" ({ cls := "ShareVault$Keys", name := "isOneCurve", desc := "([II)Z" } : Jvm.MethodName) ({ cls := "ShareVault$Keys", name := "isOneCurve", desc := "([II)Z" } : Jvm.MethodName)).before a s = true := h _ (tin3 (List.mem_of_getElem? (l := tables_1_3) (i := 19) rfl)) rfl a
set_option maxRecDepth 100000 in
theorem q501 {s : State} {a : Array Value} (h : mT s) : (Jvm.Cond.methodLink "ShareVault$Keys" (41 : Nat) ({ cls := "ShareVault$Keys", name := "positionOf", desc := "(I)I" } : Jvm.MethodName)).before a s = true := h _ (tin3 (List.mem_of_getElem? (l := tables_1_3) (i := 21) rfl)) rfl a
set_option maxRecDepth 100000 in
theorem q506 {s : State} {a : Array Value} (h : mT s) : (Jvm.Cond.methodLink "ShareVault" (359 : Nat) ({ cls := "ShareVault$Output", name := "clear", desc := "()V" } : Jvm.MethodName)).before a s = true := h _ (tin3 (List.mem_of_getElem? (l := tables_1_3) (i := 26) rfl)) rfl a
set_option maxRecDepth 100000 in
theorem q507 {s : State} {a : Array Value} (h : mT s) : (Jvm.Cond.instanceMethod ({ cls := "ShareVault$Output", name := "clear", desc := "()V" } : Jvm.MethodName)).before a s = true := h _ (tin3 (List.mem_of_getElem? (l := tables_1_3) (i := 27) rfl)) rfl a
set_option maxRecDepth 100000 in
theorem q508 {s : State} {a : Array Value} (h : mT s) : (Jvm.Cond.selects "ShareVault$Output" ({ cls := "ShareVault$Output", name := "clear", desc := "()V" } : Jvm.MethodName) ({ cls := "ShareVault$Output", name := "clear", desc := "()V" } : Jvm.MethodName)).before a s = true := h _ (tin3 (List.mem_of_getElem? (l := tables_1_3) (i := 28) rfl)) rfl a
set_option maxRecDepth 100000 in
theorem q510 {s : State} {a : Array Value} (h : mT s) : (Jvm.Cond.methodLink "ShareVault" (360 : Nat) ({ cls := "ShareVault$Output", name := "startItem", desc := "(I)V" } : Jvm.MethodName)).before a s = true := h _ (tin3 (List.mem_of_getElem? (l := tables_1_3) (i := 30) rfl)) rfl a
set_option maxRecDepth 100000 in
theorem q511 {s : State} {a : Array Value} (h : mT s) : (Jvm.Cond.instanceMethod ({ cls := "ShareVault$Output", name := "startItem", desc := "(I)V" } : Jvm.MethodName)).before a s = true := h _ (tin3 (List.mem_of_getElem? (l := tables_1_3) (i := 31) rfl)) rfl a
set_option maxRecDepth 100000 in
theorem q512 {s : State} {a : Array Value} (h : mT s) : (Jvm.Cond.selects "ShareVault$Output" ({ cls := "ShareVault$Output", name := "startItem", desc := "(I)V" } : Jvm.MethodName) ({ cls := "ShareVault$Output", name := "startItem", desc := "(I)V" } : Jvm.MethodName)).before a s = true := h _ (tin3 (List.mem_of_getElem? (l := tables_1_3) (i := 32) rfl)) rfl a
set_option maxRecDepth 100000 in
theorem q514 {s : State} {a : Array Value} (h : mT s) : (Jvm.Cond.methodLink "ShareVault$Output" (19 : Nat) ({ cls := "ShareVault$Output", name := "put", desc := "(C)V" } : Jvm.MethodName)).before a s = true := h _ (tin3 (List.mem_of_getElem? (l := tables_1_3) (i := 34) rfl)) rfl a
set_option maxRecDepth 100000 in
theorem q515 {s : State} {a : Array Value} (h : mT s) : (Jvm.Cond.instanceMethod ({ cls := "ShareVault$Output", name := "put", desc := "(C)V" } : Jvm.MethodName)).before a s = true := h _ (tin3 (List.mem_of_getElem? (l := tables_1_3) (i := 35) rfl)) rfl a
set_option maxRecDepth 100000 in
theorem q516 {s : State} {a : Array Value} (h : mT s) : (Jvm.Cond.selects "ShareVault$Output" ({ cls := "ShareVault$Output", name := "put", desc := "(C)V" } : Jvm.MethodName) ({ cls := "ShareVault$Output", name := "put", desc := "(C)V" } : Jvm.MethodName)).before a s = true := h _ (tin3 (List.mem_of_getElem? (l := tables_1_3) (i := 36) rfl)) rfl a
set_option maxRecDepth 100000 in
theorem q518 {s : State} {a : Array Value} (h : mT s) : (Jvm.Cond.methodLink "ShareVault" (363 : Nat) ({ cls := "ShareVault$Output", name := "putNumber", desc := "(I)V" } : Jvm.MethodName)).before a s = true := h _ (tin3 (List.mem_of_getElem? (l := tables_1_3) (i := 38) rfl)) rfl a
set_option maxRecDepth 100000 in
theorem q519 {s : State} {a : Array Value} (h : mT s) : (Jvm.Cond.instanceMethod ({ cls := "ShareVault$Output", name := "putNumber", desc := "(I)V" } : Jvm.MethodName)).before a s = true := h _ (tin3 (List.mem_of_getElem? (l := tables_1_3) (i := 39) rfl)) rfl a
set_option maxRecDepth 100000 in
theorem q520 {s : State} {a : Array Value} (h : mT s) : (Jvm.Cond.selects "ShareVault$Output" ({ cls := "ShareVault$Output", name := "putNumber", desc := "(I)V" } : Jvm.MethodName) ({ cls := "ShareVault$Output", name := "putNumber", desc := "(I)V" } : Jvm.MethodName)).before a s = true := h _ (tin3 (List.mem_of_getElem? (l := tables_1_3) (i := 40) rfl)) rfl a
set_option maxRecDepth 100000 in
theorem q522 {s : State} {a : Array Value} (h : mT s) : (Jvm.Cond.constant "ShareVault$Output" (23 : Nat) (1000000000 : Int32)).before a s = true := h _ (tin3 (List.mem_of_getElem? (l := tables_1_3) (i := 42) rfl)) rfl a
set_option maxRecDepth 100000 in
theorem q523 {s : State} {a : Array Value} (h : mT s) : (Jvm.Cond.methodLink "ShareVault" (366 : Nat) ({ cls := "ShareVault", name := "putGuardsIn", desc := "(I)V" } : Jvm.MethodName)).before a s = true := h _ (tin3 (List.mem_of_getElem? (l := tables_1_3) (i := 43) rfl)) rfl a
set_option maxRecDepth 100000 in
theorem q525 {s : State} {a : Array Value} (h : mT s) : (Jvm.Cond.instanceMethod ({ cls := "ShareVault", name := "putGuardsIn", desc := "(I)V" } : Jvm.MethodName)).before a s = true := h _ (tin3 (List.mem_of_getElem? (l := tables_1_3) (i := 45) rfl)) rfl a
set_option maxRecDepth 100000 in
theorem q527 {s : State} {a : Array Value} (h : mT s) : (Jvm.Cond.methodLink "ShareVault" (370 : Nat) ({ cls := "ShareVault$Output", name := "put", desc := "(C)V" } : Jvm.MethodName)).before a s = true := h _ (tin3 (List.mem_of_getElem? (l := tables_1_3) (i := 47) rfl)) rfl a
set_option maxRecDepth 100000 in
theorem q540 {s : State} {a : Array Value} (h : mT s) : (Jvm.Cond.methodLink "ShareVault" (343 : Nat) ({ cls := "ShareVault$State", name := "copyFrom", desc := "(LShareVault$State;)V" } : Jvm.MethodName)).before a s = true := h _ (tin3 (List.mem_of_getElem? (l := tables_1_3) (i := 60) rfl)) rfl a
set_option maxRecDepth 100000 in
theorem q541 {s : State} {a : Array Value} (h : mT s) : (Jvm.Cond.instanceMethod ({ cls := "ShareVault$State", name := "copyFrom", desc := "(LShareVault$State;)V" } : Jvm.MethodName)).before a s = true := h _ (tin3 (List.mem_of_getElem? (l := tables_1_3) (i := 61) rfl)) rfl a
set_option maxRecDepth 100000 in
theorem q542 {s : State} {a : Array Value} (h : mT s) : (Jvm.Cond.selects "ShareVault$State" ({ cls := "ShareVault$State", name := "copyFrom", desc := "(LShareVault$State;)V" } : Jvm.MethodName) ({ cls := "ShareVault$State", name := "copyFrom", desc := "(LShareVault$State;)V" } : Jvm.MethodName)).before a s = true := h _ (tin3 (List.mem_of_getElem? (l := tables_1_3) (i := 62) rfl)) rfl a
set_option maxRecDepth 100000 in
theorem q544 {s : State} {a : Array Value} (h : mT s) : (Jvm.Cond.methodLink "ShareVault$State" (39 : Nat) ({ cls := "ShareVault$Keys", name := "copyFrom", desc := "(LShareVault$Keys;)V" } : Jvm.MethodName)).before a s = true := h _ (tin3 (List.mem_of_getElem? (l := tables_1_3) (i := 64) rfl)) rfl a
set_option maxRecDepth 100000 in
theorem q545 {s : State} {a : Array Value} (h : mT s) : (Jvm.Cond.instanceMethod ({ cls := "ShareVault$Keys", name := "copyFrom", desc := "(LShareVault$Keys;)V" } : Jvm.MethodName)).before a s = true := h _ (tin3 (List.mem_of_getElem? (l := tables_1_3) (i := 65) rfl)) rfl a
set_option maxRecDepth 100000 in
theorem q546 {s : State} {a : Array Value} (h : mT s) : (Jvm.Cond.selects "ShareVault$Keys" ({ cls := "ShareVault$Keys", name := "copyFrom", desc := "(LShareVault$Keys;)V" } : Jvm.MethodName) ({ cls := "ShareVault$Keys", name := "copyFrom", desc := "(LShareVault$Keys;)V" } : Jvm.MethodName)).before a s = true := h _ (tin3 (List.mem_of_getElem? (l := tables_1_3) (i := 66) rfl)) rfl a
set_option maxRecDepth 100000 in
theorem q548 {s : State} {a : Array Value} (h : mT s) : (Jvm.Cond.methodLink "ShareVault$Keys" (25 : Nat) ({ cls := "java/lang/System", name := "arraycopy", desc := "(Ljava/lang/Object;ILjava/lang/Object;II)V" } : Jvm.MethodName)).before a s = true := h _ (tin3 (List.mem_of_getElem? (l := tables_1_3) (i := 68) rfl)) rfl a
set_option maxRecDepth 100000 in
theorem q549 {s : State} {a : Array Value} (h : mT s) : (Jvm.Cond.methodLink "ShareVault$State" (43 : Nat) ({ cls := "ShareVault$Door", name := "copyFrom", desc := "(LShareVault$Door;)V" } : Jvm.MethodName)).before a s = true := h _ (tin3 (List.mem_of_getElem? (l := tables_1_3) (i := 69) rfl)) rfl a
set_option maxRecDepth 100000 in
theorem q550 {s : State} {a : Array Value} (h : mT s) : (Jvm.Cond.instanceMethod ({ cls := "ShareVault$Door", name := "copyFrom", desc := "(LShareVault$Door;)V" } : Jvm.MethodName)).before a s = true := h _ (tin3 (List.mem_of_getElem? (l := tables_1_3) (i := 70) rfl)) rfl a
set_option maxRecDepth 100000 in
theorem q551 {s : State} {a : Array Value} (h : mT s) : (Jvm.Cond.selects "ShareVault$Door" ({ cls := "ShareVault$Door", name := "copyFrom", desc := "(LShareVault$Door;)V" } : Jvm.MethodName) ({ cls := "ShareVault$Door", name := "copyFrom", desc := "(LShareVault$Door;)V" } : Jvm.MethodName)).before a s = true := h _ (tin3 (List.mem_of_getElem? (l := tables_1_3) (i := 71) rfl)) rfl a
set_option maxRecDepth 100000 in
theorem q553 {s : State} {a : Array Value} (h : mT s) : (Jvm.Cond.methodLink "ShareVault$State" (46 : Nat) ({ cls := "ShareVault$Building", name := "copyFrom", desc := "(LShareVault$Building;)V" } : Jvm.MethodName)).before a s = true := h _ (tin3 (List.mem_of_getElem? (l := tables_1_3) (i := 73) rfl)) rfl a
set_option maxRecDepth 100000 in
theorem q554 {s : State} {a : Array Value} (h : mT s) : (Jvm.Cond.methodLink "ShareVault$State" (49 : Nat) ({ cls := "ShareVault$Journal", name := "copyFrom", desc := "(LShareVault$Journal;)V" } : Jvm.MethodName)).before a s = true := h _ (tin3 (List.mem_of_getElem? (l := tables_1_3) (i := 74) rfl)) rfl a
set_option maxRecDepth 100000 in
theorem q555 {s : State} {a : Array Value} (h : mT s) : (Jvm.Cond.instanceMethod ({ cls := "ShareVault$Journal", name := "copyFrom", desc := "(LShareVault$Journal;)V" } : Jvm.MethodName)).before a s = true := h _ (tin3 (List.mem_of_getElem? (l := tables_1_3) (i := 75) rfl)) rfl a
set_option maxRecDepth 100000 in
theorem q556 {s : State} {a : Array Value} (h : mT s) : (Jvm.Cond.selects "ShareVault$Journal" ({ cls := "ShareVault$Journal", name := "copyFrom", desc := "(LShareVault$Journal;)V" } : Jvm.MethodName) ({ cls := "ShareVault$Journal", name := "copyFrom", desc := "(LShareVault$Journal;)V" } : Jvm.MethodName)).before a s = true := h _ (tin3 (List.mem_of_getElem? (l := tables_1_3) (i := 76) rfl)) rfl a
set_option maxRecDepth 100000 in
theorem q558 {s : State} {a : Array Value} (h : mT s) : (Jvm.Cond.methodLink "ShareVault$Journal" (26 : Nat) ({ cls := "java/lang/System", name := "arraycopy", desc := "(Ljava/lang/Object;ILjava/lang/Object;II)V" } : Jvm.MethodName)).before a s = true := h _ (tin3 (List.mem_of_getElem? (l := tables_1_3) (i := 78) rfl)) rfl a
set_option maxRecDepth 100000 in
theorem q567 {s : State} {a : Array Value} (h : mT s) : (Jvm.Cond.methodLink "ShareVault" (64 : Nat) ({ cls := "ShareVault$History", name := "prepare", desc := "(LShareVault$State;)V" } : Jvm.MethodName)).before a s = true := h _ (tin3 (List.mem_of_getElem? (l := tables_1_3) (i := 87) rfl)) rfl a
set_option maxRecDepth 100000 in
theorem q568 {s : State} {a : Array Value} (h : mT s) : (Jvm.Cond.instanceMethod ({ cls := "ShareVault$History", name := "prepare", desc := "(LShareVault$State;)V" } : Jvm.MethodName)).before a s = true := h _ (tin3 (List.mem_of_getElem? (l := tables_1_3) (i := 88) rfl)) rfl a
set_option maxRecDepth 100000 in
theorem q569 {s : State} {a : Array Value} (h : mT s) : (Jvm.Cond.selects "ShareVault$History" ({ cls := "ShareVault$History", name := "prepare", desc := "(LShareVault$State;)V" } : Jvm.MethodName) ({ cls := "ShareVault$History", name := "prepare", desc := "(LShareVault$State;)V" } : Jvm.MethodName)).before a s = true := h _ (tin3 (List.mem_of_getElem? (l := tables_1_3) (i := 89) rfl)) rfl a
set_option maxRecDepth 100000 in
theorem q571 {s : State} {a : Array Value} (h : mT s) : (Jvm.Cond.methodLink "ShareVault$History" (22 : Nat) ({ cls := "ShareVault$State", name := "copyFrom", desc := "(LShareVault$State;)V" } : Jvm.MethodName)).before a s = true := h _ (tin3 (List.mem_of_getElem? (l := tables_1_3) (i := 91) rfl)) rfl a
set_option maxRecDepth 100000 in
theorem q572 {s : State} {a : Array Value} (h : mT s) : (Jvm.Cond.methodLink "ShareVault" (68 : Nat) ({ cls := "ShareVault$State", name := "tryHolder", desc := "()I" } : Jvm.MethodName)).before a s = true := h _ (tin3 (List.mem_of_getElem? (l := tables_1_3) (i := 92) rfl)) rfl a
set_option maxRecDepth 100000 in
theorem q573 {s : State} {a : Array Value} (h : mT s) : (Jvm.Cond.instanceMethod ({ cls := "ShareVault$State", name := "tryHolder", desc := "()I" } : Jvm.MethodName)).before a s = true := h _ (tin3 (List.mem_of_getElem? (l := tables_1_3) (i := 93) rfl)) rfl a
set_option maxRecDepth 100000 in
theorem q574 {s : State} {a : Array Value} (h : mT s) : (Jvm.Cond.selects "ShareVault$State" ({ cls := "ShareVault$State", name := "tryHolder", desc := "()I" } : Jvm.MethodName) ({ cls := "ShareVault$State", name := "tryHolder", desc := "()I" } : Jvm.MethodName)).before a s = true := h _ (tin3 (List.mem_of_getElem? (l := tables_1_3) (i := 94) rfl)) rfl a
set_option maxRecDepth 100000 in
theorem q576 {s : State} {a : Array Value} (h : mT s) : (Jvm.Cond.methodLink "ShareVault$State" (75 : Nat) ({ cls := "ShareVault$Keys", name := "join", desc := "()I" } : Jvm.MethodName)).before a s = true := h _ (tin3 (List.mem_of_getElem? (l := tables_1_3) (i := 96) rfl)) rfl a
set_option maxRecDepth 100000 in
theorem q577 {s : State} {a : Array Value} (h : mT s) : (Jvm.Cond.instanceMethod ({ cls := "ShareVault$Keys", name := "join", desc := "()I" } : Jvm.MethodName)).before a s = true := h _ (tin3 (List.mem_of_getElem? (l := tables_1_3) (i := 97) rfl)) rfl a
set_option maxRecDepth 100000 in
theorem q578 {s : State} {a : Array Value} (h : mT s) : (Jvm.Cond.selects "ShareVault$Keys" ({ cls := "ShareVault$Keys", name := "join", desc := "()I" } : Jvm.MethodName) ({ cls := "ShareVault$Keys", name := "join", desc := "()I" } : Jvm.MethodName)).before a s = true := h _ (tin3 (List.mem_of_getElem? (l := tables_1_3) (i := 98) rfl)) rfl a
set_option maxRecDepth 100000 in
theorem q580 {s : State} {a : Array Value} (h : mT s) : (Jvm.Cond.methodLink "ShareVault$Keys" (49 : Nat) ({ cls := "ShareVault$Keys", name := "correctShare", desc := "(I)I" } : Jvm.MethodName)).before a s = true := h _ (tin3 (List.mem_of_getElem? (l := tables_1_3) (i := 100) rfl)) rfl a
set_option maxRecDepth 100000 in
theorem q581 {s : State} {a : Array Value} (h : mT s) : (Jvm.Cond.instanceMethod ({ cls := "ShareVault$Keys", name := "correctShare", desc := "(I)I" } : Jvm.MethodName)).before a s = true := h _ (tin3 (List.mem_of_getElem? (l := tables_1_3) (i := 101) rfl)) rfl a
set_option maxRecDepth 100000 in
theorem q582 {s : State} {a : Array Value} (h : mT s) : (Jvm.Cond.selects "ShareVault$Keys" ({ cls := "ShareVault$Keys", name := "correctShare", desc := "(I)I" } : Jvm.MethodName) ({ cls := "ShareVault$Keys", name := "correctShare", desc := "(I)I" } : Jvm.MethodName)).before a s = true := h _ (tin3 (List.mem_of_getElem? (l := tables_1_3) (i := 102) rfl)) rfl a
set_option maxRecDepth 100000 in
theorem q584 {s : State} {a : Array Value} (h : mT s) : (Jvm.Cond.methodLink "ShareVault$Keys" (45 : Nat) ({ cls := "ShareVault$Keys", name := "valueOn", desc := "([II)I" } : Jvm.MethodName)).before a s = true := h _ (tin3 (List.mem_of_getElem? (l := tables_1_3) (i := 104) rfl)) rfl a
set_option maxRecDepth 100000 in
theorem q585 {s : State} {a : Array Value} (h : mT s) : (Jvm.Cond.methodLink "ShareVault" (72 : Nat) ({ cls := "ShareVault", name := "settle", desc := "(II)I" } : Jvm.MethodName)).before a s = true := h _ (tin3 (List.mem_of_getElem? (l := tables_1_3) (i := 105) rfl)) rfl a
set_option maxRecDepth 100000 in
theorem q587 {s : State} {a : Array Value} (h : mT s) : (Jvm.Cond.instanceMethod ({ cls := "ShareVault", name := "settle", desc := "(II)I" } : Jvm.MethodName)).before a s = true := h _ (tin3 (List.mem_of_getElem? (l := tables_1_3) (i := 107) rfl)) rfl a
set_option maxRecDepth 100000 in
theorem q589 {s : State} {a : Array Value} (h : mT s) : (Jvm.Cond.classLink "ShareVault" (374 : Nat) "java/lang/IndexOutOfBoundsException").before a s = true := h _ (tin3 (List.mem_of_getElem? (l := tables_1_3) (i := 109) rfl)) rfl a
set_option maxRecDepth 100000 in
theorem q661 {s : State} {a : Array Value} (h : mT s) : (Jvm.Cond.classLink "ShareVault" (171 : Nat) "java/lang/IllegalArgumentException").before a s = true := h _ (tin3 (List.mem_of_getElem? (l := tables_1_3) (i := 181) rfl)) rfl a
set_option maxRecDepth 100000 in
theorem q677 {s : State} {a : Array Value} (h : mT s) : (Jvm.Cond.methodLink "ShareVault" (398 : Nat) ({ cls := "ShareVault$State", name := "detailOf", desc := "(II)I" } : Jvm.MethodName)).before a s = true := h _ (tin3 (List.mem_of_getElem? (l := tables_1_3) (i := 197) rfl)) rfl a
set_option maxRecDepth 100000 in
theorem q678 {s : State} {a : Array Value} (h : mT s) : (Jvm.Cond.instanceMethod ({ cls := "ShareVault$State", name := "detailOf", desc := "(II)I" } : Jvm.MethodName)).before a s = true := h _ (tin3 (List.mem_of_getElem? (l := tables_1_3) (i := 198) rfl)) rfl a
set_option maxRecDepth 100000 in
theorem q679 {s : State} {a : Array Value} (h : mT s) : (Jvm.Cond.selects "ShareVault$State" ({ cls := "ShareVault$State", name := "detailOf", desc := "(II)I" } : Jvm.MethodName) ({ cls := "ShareVault$State", name := "detailOf", desc := "(II)I" } : Jvm.MethodName)).before a s = true := h _ (tin3 (List.mem_of_getElem? (l := tables_1_3) (i := 199) rfl)) rfl a
set_option maxRecDepth 100000 in
theorem q681 {s : State} {a : Array Value} (h : mT s) : (Jvm.Cond.methodLink "ShareVault$State" (56 : Nat) ({ cls := "ShareVault$Keys", name := "placeOf", desc := "(I)I" } : Jvm.MethodName)).before a s = true := h _ (tin3 (List.mem_of_getElem? (l := tables_1_3) (i := 201) rfl)) rfl a
set_option maxRecDepth 100000 in
theorem q682 {s : State} {a : Array Value} (h : mT s) : (Jvm.Cond.instanceMethod ({ cls := "ShareVault$Keys", name := "placeOf", desc := "(I)I" } : Jvm.MethodName)).before a s = true := h _ (tin3 (List.mem_of_getElem? (l := tables_1_3) (i := 202) rfl)) rfl a
set_option maxRecDepth 100000 in
theorem q683 {s : State} {a : Array Value} (h : mT s) : (Jvm.Cond.selects "ShareVault$Keys" ({ cls := "ShareVault$Keys", name := "placeOf", desc := "(I)I" } : Jvm.MethodName) ({ cls := "ShareVault$Keys", name := "placeOf", desc := "(I)I" } : Jvm.MethodName)).before a s = true := h _ (tin3 (List.mem_of_getElem? (l := tables_1_3) (i := 203) rfl)) rfl a
set_option maxRecDepth 100000 in
theorem q685 {s : State} {a : Array Value} (h : mT s) : (Jvm.Cond.methodLink "ShareVault" (345 : Nat) ({ cls := "ShareVault", name := "keepRefusal", desc := "(III)V" } : Jvm.MethodName)).before a s = true := h _ (tin3 (List.mem_of_getElem? (l := tables_1_3) (i := 205) rfl)) rfl a
set_option maxRecDepth 100000 in
theorem q687 {s : State} {a : Array Value} (h : mT s) : (Jvm.Cond.instanceMethod ({ cls := "ShareVault", name := "keepRefusal", desc := "(III)V" } : Jvm.MethodName)).before a s = true := h _ (tin3 (List.mem_of_getElem? (l := tables_1_3) (i := 207) rfl)) rfl a
set_option maxRecDepth 100000 in
theorem q689 {s : State} {a : Array Value} (h : mT s) : (Jvm.Cond.classLink "ShareVault" (349 : Nat) "java/lang/UnsupportedOperationException").before a s = true := h _ (tin3 (List.mem_of_getElem? (l := tables_1_3) (i := 209) rfl)) rfl a
set_option maxRecDepth 100000 in
theorem q705 {s : State} {a : Array Value} (h : mT s) : (Jvm.Cond.methodLink "ShareVault" (354 : Nat) ({ cls := "ShareVault$History", name := "keep", desc := "()V" } : Jvm.MethodName)).before a s = true := h _ (tin3 (List.mem_of_getElem? (l := tables_1_3) (i := 225) rfl)) rfl a
set_option maxRecDepth 100000 in
theorem q706 {s : State} {a : Array Value} (h : mT s) : (Jvm.Cond.instanceMethod ({ cls := "ShareVault$History", name := "keep", desc := "()V" } : Jvm.MethodName)).before a s = true := h _ (tin3 (List.mem_of_getElem? (l := tables_1_3) (i := 226) rfl)) rfl a
set_option maxRecDepth 100000 in
theorem q707 {s : State} {a : Array Value} (h : mT s) : (Jvm.Cond.selects "ShareVault$History" ({ cls := "ShareVault$History", name := "keep", desc := "()V" } : Jvm.MethodName) ({ cls := "ShareVault$History", name := "keep", desc := "()V" } : Jvm.MethodName)).before a s = true := h _ (tin3 (List.mem_of_getElem? (l := tables_1_3) (i := 227) rfl)) rfl a
set_option maxRecDepth 100000 in
theorem q709 {s : State} {a : Array Value} (h : mT s) : (Jvm.Cond.methodLink "ShareVault$History" (29 : Nat) ({ cls := "java/lang/Math", name := "min", desc := "(II)I" } : Jvm.MethodName)).before a s = true := h _ (tin3 (List.mem_of_getElem? (l := tables_1_3) (i := 229) rfl)) rfl a
set_option maxRecDepth 100000 in
theorem q718 {s : State} {a : Array Value} (h : mT s) : (Jvm.Cond.methodLink "ShareVault" (76 : Nat) ({ cls := "ShareVault$State", name := "trySeal", desc := "(IIII)I" } : Jvm.MethodName)).before a s = true := h _ (tin3 (List.mem_of_getElem? (l := tables_1_3) (i := 238) rfl)) rfl a
set_option maxRecDepth 100000 in
theorem q719 {s : State} {a : Array Value} (h : mT s) : (Jvm.Cond.instanceMethod ({ cls := "ShareVault$State", name := "trySeal", desc := "(IIII)I" } : Jvm.MethodName)).before a s = true := h _ (tin3 (List.mem_of_getElem? (l := tables_1_3) (i := 239) rfl)) rfl a
set_option maxRecDepth 100000 in
theorem q720 {s : State} {a : Array Value} (h : mT s) : (Jvm.Cond.selects "ShareVault$State" ({ cls := "ShareVault$State", name := "trySeal", desc := "(IIII)I" } : Jvm.MethodName) ({ cls := "ShareVault$State", name := "trySeal", desc := "(IIII)I" } : Jvm.MethodName)).before a s = true := h _ (tin4 (List.mem_of_getElem? (l := tables_1_4) (i := 0) rfl)) rfl a
set_option maxRecDepth 100000 in
theorem q722 {s : State} {a : Array Value} (h : mT s) : (Jvm.Cond.methodLink "ShareVault$State" (82 : Nat) ({ cls := "ShareVault$Keys", name := "isResidue", desc := "(I)Z" } : Jvm.MethodName)).before a s = true := h _ (tin4 (List.mem_of_getElem? (l := tables_1_4) (i := 2) rfl)) rfl a
set_option maxRecDepth 100000 in
theorem q723 {s : State} {a : Array Value} (h : mT s) : (Jvm.Cond.static ({ cls := "ShareVault$Keys", name := "isResidue", desc := "(I)Z" } : Jvm.MethodName)).before a s = true := h _ (tin4 (List.mem_of_getElem? (l := tables_1_4) (i := 3) rfl)) rfl a
set_option maxRecDepth 100000 in
theorem q725 {s : State} {a : Array Value} (h : mT s) : (Jvm.Cond.methodLink "ShareVault$State" (86 : Nat) ({ cls := "ShareVault$Keys", name := "sealWith", desc := "(IIII)V" } : Jvm.MethodName)).before a s = true := h _ (tin4 (List.mem_of_getElem? (l := tables_1_4) (i := 5) rfl)) rfl a
set_option maxRecDepth 100000 in
theorem q726 {s : State} {a : Array Value} (h : mT s) : (Jvm.Cond.instanceMethod ({ cls := "ShareVault$Keys", name := "sealWith", desc := "(IIII)V" } : Jvm.MethodName)).before a s = true := h _ (tin4 (List.mem_of_getElem? (l := tables_1_4) (i := 6) rfl)) rfl a
set_option maxRecDepth 100000 in
theorem q727 {s : State} {a : Array Value} (h : mT s) : (Jvm.Cond.selects "ShareVault$Keys" ({ cls := "ShareVault$Keys", name := "sealWith", desc := "(IIII)V" } : Jvm.MethodName) ({ cls := "ShareVault$Keys", name := "sealWith", desc := "(IIII)V" } : Jvm.MethodName)).before a s = true := h _ (tin4 (List.mem_of_getElem? (l := tables_1_4) (i := 7) rfl)) rfl a
set_option maxRecDepth 100000 in
theorem q729 {s : State} {a : Array Value} (h : mT s) : (Jvm.Cond.methodLink "ShareVault$State" (90 : Nat) ({ cls := "ShareVault$Door", name := "shutAnew", desc := "()V" } : Jvm.MethodName)).before a s = true := h _ (tin4 (List.mem_of_getElem? (l := tables_1_4) (i := 9) rfl)) rfl a
set_option maxRecDepth 100000 in
theorem q730 {s : State} {a : Array Value} (h : mT s) : (Jvm.Cond.instanceMethod ({ cls := "ShareVault$Door", name := "shutAnew", desc := "()V" } : Jvm.MethodName)).before a s = true := h _ (tin4 (List.mem_of_getElem? (l := tables_1_4) (i := 10) rfl)) rfl a
set_option maxRecDepth 100000 in
theorem q731 {s : State} {a : Array Value} (h : mT s) : (Jvm.Cond.selects "ShareVault$Door" ({ cls := "ShareVault$Door", name := "shutAnew", desc := "()V" } : Jvm.MethodName) ({ cls := "ShareVault$Door", name := "shutAnew", desc := "()V" } : Jvm.MethodName)).before a s = true := h _ (tin4 (List.mem_of_getElem? (l := tables_1_4) (i := 11) rfl)) rfl a
set_option maxRecDepth 100000 in
theorem q761 {s : State} {a : Array Value} (h : mT s) : (Jvm.Cond.methodLink "ShareVault" (80 : Nat) ({ cls := "ShareVault$State", name := "tryShare", desc := "(II)I" } : Jvm.MethodName)).before a s = true := h _ (tin4 (List.mem_of_getElem? (l := tables_1_4) (i := 41) rfl)) rfl a
set_option maxRecDepth 100000 in
theorem q762 {s : State} {a : Array Value} (h : mT s) : (Jvm.Cond.instanceMethod ({ cls := "ShareVault$State", name := "tryShare", desc := "(II)I" } : Jvm.MethodName)).before a s = true := h _ (tin4 (List.mem_of_getElem? (l := tables_1_4) (i := 42) rfl)) rfl a
set_option maxRecDepth 100000 in
theorem q763 {s : State} {a : Array Value} (h : mT s) : (Jvm.Cond.selects "ShareVault$State" ({ cls := "ShareVault$State", name := "tryShare", desc := "(II)I" } : Jvm.MethodName) ({ cls := "ShareVault$State", name := "tryShare", desc := "(II)I" } : Jvm.MethodName)).before a s = true := h _ (tin4 (List.mem_of_getElem? (l := tables_1_4) (i := 43) rfl)) rfl a
set_option maxRecDepth 100000 in
theorem q765 {s : State} {a : Array Value} (h : mT s) : (Jvm.Cond.methodLink "ShareVault$State" (93 : Nat) ({ cls := "ShareVault$Keys", name := "hasHolder", desc := "(I)Z" } : Jvm.MethodName)).before a s = true := h _ (tin4 (List.mem_of_getElem? (l := tables_1_4) (i := 45) rfl)) rfl a
set_option maxRecDepth 100000 in
theorem q766 {s : State} {a : Array Value} (h : mT s) : (Jvm.Cond.instanceMethod ({ cls := "ShareVault$Keys", name := "hasHolder", desc := "(I)Z" } : Jvm.MethodName)).before a s = true := h _ (tin4 (List.mem_of_getElem? (l := tables_1_4) (i := 46) rfl)) rfl a
set_option maxRecDepth 100000 in
theorem q767 {s : State} {a : Array Value} (h : mT s) : (Jvm.Cond.selects "ShareVault$Keys" ({ cls := "ShareVault$Keys", name := "hasHolder", desc := "(I)Z" } : Jvm.MethodName) ({ cls := "ShareVault$Keys", name := "hasHolder", desc := "(I)Z" } : Jvm.MethodName)).before a s = true := h _ (tin4 (List.mem_of_getElem? (l := tables_1_4) (i := 47) rfl)) rfl a
set_option maxRecDepth 100000 in
theorem q776 {s : State} {a : Array Value} (h : mT s) : (Jvm.Cond.methodLink "ShareVault" (83 : Nat) ({ cls := "ShareVault$State", name := "tryPresent", desc := "(I)I" } : Jvm.MethodName)).before a s = true := h _ (tin4 (List.mem_of_getElem? (l := tables_1_4) (i := 56) rfl)) rfl a
set_option maxRecDepth 100000 in
theorem q777 {s : State} {a : Array Value} (h : mT s) : (Jvm.Cond.instanceMethod ({ cls := "ShareVault$State", name := "tryPresent", desc := "(I)I" } : Jvm.MethodName)).before a s = true := h _ (tin4 (List.mem_of_getElem? (l := tables_1_4) (i := 57) rfl)) rfl a
set_option maxRecDepth 100000 in
theorem q778 {s : State} {a : Array Value} (h : mT s) : (Jvm.Cond.selects "ShareVault$State" ({ cls := "ShareVault$State", name := "tryPresent", desc := "(I)I" } : Jvm.MethodName) ({ cls := "ShareVault$State", name := "tryPresent", desc := "(I)I" } : Jvm.MethodName)).before a s = true := h _ (tin4 (List.mem_of_getElem? (l := tables_1_4) (i := 58) rfl)) rfl a
set_option maxRecDepth 100000 in
theorem q780 {s : State} {a : Array Value} (h : mT s) : (Jvm.Cond.methodLink "ShareVault$State" (104 : Nat) ({ cls := "ShareVault$Keys", name := "show", desc := "(I)I" } : Jvm.MethodName)).before a s = true := h _ (tin4 (List.mem_of_getElem? (l := tables_1_4) (i := 60) rfl)) rfl a
set_option maxRecDepth 100000 in
theorem q781 {s : State} {a : Array Value} (h : mT s) : (Jvm.Cond.instanceMethod ({ cls := "ShareVault$Keys", name := "show", desc := "(I)I" } : Jvm.MethodName)).before a s = true := h _ (tin4 (List.mem_of_getElem? (l := tables_1_4) (i := 61) rfl)) rfl a
set_option maxRecDepth 100000 in
theorem q782 {s : State} {a : Array Value} (h : mT s) : (Jvm.Cond.selects "ShareVault$Keys" ({ cls := "ShareVault$Keys", name := "show", desc := "(I)I" } : Jvm.MethodName) ({ cls := "ShareVault$Keys", name := "show", desc := "(I)I" } : Jvm.MethodName)).before a s = true := h _ (tin4 (List.mem_of_getElem? (l := tables_1_4) (i := 62) rfl)) rfl a
set_option maxRecDepth 100000 in
theorem q791 {s : State} {a : Array Value} (h : mT s) : (Jvm.Cond.methodLink "ShareVault" (87 : Nat) ({ cls := "ShareVault$State", name := "tryTakeBack", desc := "(I)I" } : Jvm.MethodName)).before a s = true := h _ (tin4 (List.mem_of_getElem? (l := tables_1_4) (i := 71) rfl)) rfl a
set_option maxRecDepth 100000 in
theorem q792 {s : State} {a : Array Value} (h : mT s) : (Jvm.Cond.instanceMethod ({ cls := "ShareVault$State", name := "tryTakeBack", desc := "(I)I" } : Jvm.MethodName)).before a s = true := h _ (tin4 (List.mem_of_getElem? (l := tables_1_4) (i := 72) rfl)) rfl a
set_option maxRecDepth 100000 in
theorem q793 {s : State} {a : Array Value} (h : mT s) : (Jvm.Cond.selects "ShareVault$State" ({ cls := "ShareVault$State", name := "tryTakeBack", desc := "(I)I" } : Jvm.MethodName) ({ cls := "ShareVault$State", name := "tryTakeBack", desc := "(I)I" } : Jvm.MethodName)).before a s = true := h _ (tin4 (List.mem_of_getElem? (l := tables_1_4) (i := 73) rfl)) rfl a
set_option maxRecDepth 100000 in
theorem q795 {s : State} {a : Array Value} (h : mT s) : (Jvm.Cond.methodLink "ShareVault$State" (107 : Nat) ({ cls := "ShareVault$Keys", name := "hide", desc := "(I)I" } : Jvm.MethodName)).before a s = true := h _ (tin4 (List.mem_of_getElem? (l := tables_1_4) (i := 75) rfl)) rfl a
set_option maxRecDepth 100000 in
theorem q796 {s : State} {a : Array Value} (h : mT s) : (Jvm.Cond.instanceMethod ({ cls := "ShareVault$Keys", name := "hide", desc := "(I)I" } : Jvm.MethodName)).before a s = true := h _ (tin4 (List.mem_of_getElem? (l := tables_1_4) (i := 76) rfl)) rfl a
set_option maxRecDepth 100000 in
theorem q797 {s : State} {a : Array Value} (h : mT s) : (Jvm.Cond.selects "ShareVault$Keys" ({ cls := "ShareVault$Keys", name := "hide", desc := "(I)I" } : Jvm.MethodName) ({ cls := "ShareVault$Keys", name := "hide", desc := "(I)I" } : Jvm.MethodName)).before a s = true := h _ (tin4 (List.mem_of_getElem? (l := tables_1_4) (i := 77) rfl)) rfl a
set_option maxRecDepth 100000 in
theorem q806 {s : State} {a : Array Value} (h : mT s) : (Jvm.Cond.methodLink "ShareVault" (90 : Nat) ({ cls := "ShareVault$State", name := "tryOpen", desc := "()I" } : Jvm.MethodName)).before a s = true := h _ (tin4 (List.mem_of_getElem? (l := tables_1_4) (i := 86) rfl)) rfl a
set_option maxRecDepth 100000 in
theorem q807 {s : State} {a : Array Value} (h : mT s) : (Jvm.Cond.instanceMethod ({ cls := "ShareVault$State", name := "tryOpen", desc := "()I" } : Jvm.MethodName)).before a s = true := h _ (tin4 (List.mem_of_getElem? (l := tables_1_4) (i := 87) rfl)) rfl a
set_option maxRecDepth 100000 in
theorem q808 {s : State} {a : Array Value} (h : mT s) : (Jvm.Cond.selects "ShareVault$State" ({ cls := "ShareVault$State", name := "tryOpen", desc := "()I" } : Jvm.MethodName) ({ cls := "ShareVault$State", name := "tryOpen", desc := "()I" } : Jvm.MethodName)).before a s = true := h _ (tin4 (List.mem_of_getElem? (l := tables_1_4) (i := 88) rfl)) rfl a
set_option maxRecDepth 100000 in
theorem q810 {s : State} {a : Array Value} (h : mT s) : (Jvm.Cond.methodLink "ShareVault$State" (110 : Nat) ({ cls := "ShareVault$State", name := "verdictOnAttempt", desc := "()I" } : Jvm.MethodName)).before a s = true := h _ (tin4 (List.mem_of_getElem? (l := tables_1_4) (i := 90) rfl)) rfl a
set_option maxRecDepth 100000 in
theorem q812 {s : State} {a : Array Value} (h : mT s) : (Jvm.Cond.instanceMethod ({ cls := "ShareVault$State", name := "verdictOnAttempt", desc := "()I" } : Jvm.MethodName)).before a s = true := h _ (tin4 (List.mem_of_getElem? (l := tables_1_4) (i := 92) rfl)) rfl a
set_option maxRecDepth 100000 in
theorem q814 {s : State} {a : Array Value} (h : mT s) : (Jvm.Cond.methodLink "ShareVault$State" (133 : Nat) ({ cls := "ShareVault$Keys", name := "areEnough", desc := "()Z" } : Jvm.MethodName)).before a s = true := h _ (tin4 (List.mem_of_getElem? (l := tables_1_4) (i := 94) rfl)) rfl a
set_option maxRecDepth 100000 in
theorem q815 {s : State} {a : Array Value} (h : mT s) : (Jvm.Cond.methodLink "ShareVault$State" (136 : Nat) ({ cls := "ShareVault$Building", name := "hasGuardIn", desc := "(I)Z" } : Jvm.MethodName)).before a s = true := h _ (tin4 (List.mem_of_getElem? (l := tables_1_4) (i := 95) rfl)) rfl a
set_option maxRecDepth 100000 in
theorem q816 {s : State} {a : Array Value} (h : mT s) : (Jvm.Cond.methodLink "ShareVault$State" (113 : Nat) ({ cls := "ShareVault$Keys", name := "tellTheSecret", desc := "()Z" } : Jvm.MethodName)).before a s = true := h _ (tin4 (List.mem_of_getElem? (l := tables_1_4) (i := 96) rfl)) rfl a
set_option maxRecDepth 100000 in
theorem q817 {s : State} {a : Array Value} (h : mT s) : (Jvm.Cond.instanceMethod ({ cls := "ShareVault$Keys", name := "tellTheSecret", desc := "()Z" } : Jvm.MethodName)).before a s = true := h _ (tin4 (List.mem_of_getElem? (l := tables_1_4) (i := 97) rfl)) rfl a
set_option maxRecDepth 100000 in
theorem q818 {s : State} {a : Array Value} (h : mT s) : (Jvm.Cond.selects "ShareVault$Keys" ({ cls := "ShareVault$Keys", name := "tellTheSecret", desc := "()Z" } : Jvm.MethodName) ({ cls := "ShareVault$Keys", name := "tellTheSecret", desc := "()Z" } : Jvm.MethodName)).before a s = true := h _ (tin4 (List.mem_of_getElem? (l := tables_1_4) (i := 98) rfl)) rfl a
set_option maxRecDepth 100000 in
theorem q820 {s : State} {a : Array Value} (h : mT s) : (Jvm.Cond.methodLink "ShareVault$Keys" (55 : Nat) ({ cls := "ShareVault$Keys", name := "isOneCurve", desc := "([II)Z" } : Jvm.MethodName)).before a s = true := h _ (tin4 (List.mem_of_getElem? (l := tables_1_4) (i := 100) rfl)) rfl a
set_option maxRecDepth 100000 in
theorem q821 {s : State} {a : Array Value} (h : mT s) : (Jvm.Cond.methodLink "ShareVault$Keys" (59 : Nat) ({ cls := "ShareVault$Keys", name := "toldAt", desc := "(I)I" } : Jvm.MethodName)).before a s = true := h _ (tin4 (List.mem_of_getElem? (l := tables_1_4) (i := 101) rfl)) rfl a
set_option maxRecDepth 100000 in
theorem q822 {s : State} {a : Array Value} (h : mT s) : (Jvm.Cond.methodLink "ShareVault$State" (117 : Nat) ({ cls := "ShareVault$Door", name := "swingOpen", desc := "()V" } : Jvm.MethodName)).before a s = true := h _ (tin4 (List.mem_of_getElem? (l := tables_1_4) (i := 102) rfl)) rfl a
set_option maxRecDepth 100000 in
theorem q823 {s : State} {a : Array Value} (h : mT s) : (Jvm.Cond.instanceMethod ({ cls := "ShareVault$Door", name := "swingOpen", desc := "()V" } : Jvm.MethodName)).before a s = true := h _ (tin4 (List.mem_of_getElem? (l := tables_1_4) (i := 103) rfl)) rfl a
set_option maxRecDepth 100000 in
theorem q824 {s : State} {a : Array Value} (h : mT s) : (Jvm.Cond.selects "ShareVault$Door" ({ cls := "ShareVault$Door", name := "swingOpen", desc := "()V" } : Jvm.MethodName) ({ cls := "ShareVault$Door", name := "swingOpen", desc := "()V" } : Jvm.MethodName)).before a s = true := h _ (tin4 (List.mem_of_getElem? (l := tables_1_4) (i := 104) rfl)) rfl a
set_option maxRecDepth 100000 in
theorem q826 {s : State} {a : Array Value} (h : mT s) : (Jvm.Cond.methodLink "ShareVault$State" (120 : Nat) ({ cls := "ShareVault$Door", name := "countFailure", desc := "()V" } : Jvm.MethodName)).before a s = true := h _ (tin4 (List.mem_of_getElem? (l := tables_1_4) (i := 106) rfl)) rfl a
set_option maxRecDepth 100000 in
theorem q827 {s : State} {a : Array Value} (h : mT s) : (Jvm.Cond.instanceMethod ({ cls := "ShareVault$Door", name := "countFailure", desc := "()V" } : Jvm.MethodName)).before a s = true := h _ (tin4 (List.mem_of_getElem? (l := tables_1_4) (i := 107) rfl)) rfl a
set_option maxRecDepth 100000 in
theorem q828 {s : State} {a : Array Value} (h : mT s) : (Jvm.Cond.selects "ShareVault$Door" ({ cls := "ShareVault$Door", name := "countFailure", desc := "()V" } : Jvm.MethodName) ({ cls := "ShareVault$Door", name := "countFailure", desc := "()V" } : Jvm.MethodName)).before a s = true := h _ (tin4 (List.mem_of_getElem? (l := tables_1_4) (i := 108) rfl)) rfl a
set_option maxRecDepth 100000 in
theorem q830 {s : State} {a : Array Value} (h : mT s) : (Jvm.Cond.methodLink "ShareVault$State" (126 : Nat) ({ cls := "ShareVault$Journal", name := "enter", desc := "(ICI)V" } : Jvm.MethodName)).before a s = true := h _ (tin4 (List.mem_of_getElem? (l := tables_1_4) (i := 110) rfl)) rfl a
set_option maxRecDepth 100000 in
theorem q831 {s : State} {a : Array Value} (h : mT s) : (Jvm.Cond.instanceMethod ({ cls := "ShareVault$Journal", name := "enter", desc := "(ICI)V" } : Jvm.MethodName)).before a s = true := h _ (tin4 (List.mem_of_getElem? (l := tables_1_4) (i := 111) rfl)) rfl a
set_option maxRecDepth 100000 in
theorem q832 {s : State} {a : Array Value} (h : mT s) : (Jvm.Cond.selects "ShareVault$Journal" ({ cls := "ShareVault$Journal", name := "enter", desc := "(ICI)V" } : Jvm.MethodName) ({ cls := "ShareVault$Journal", name := "enter", desc := "(ICI)V" } : Jvm.MethodName)).before a s = true := h _ (tin4 (List.mem_of_getElem? (l := tables_1_4) (i := 112) rfl)) rfl a
set_option maxRecDepth 100000 in
theorem q834 {s : State} {a : Array Value} (h : mT s) : (Jvm.Cond.methodLink "ShareVault$Journal" (32 : Nat) ({ cls := "ShareVault$Journal", name := "dropOldest", desc := "()V" } : Jvm.MethodName)).before a s = true := h _ (tin4 (List.mem_of_getElem? (l := tables_1_4) (i := 114) rfl)) rfl a
set_option maxRecDepth 100000 in
theorem q836 {s : State} {a : Array Value} (h : mT s) : (Jvm.Cond.instanceMethod ({ cls := "ShareVault$Journal", name := "dropOldest", desc := "()V" } : Jvm.MethodName)).before a s = true := h _ (tin4 (List.mem_of_getElem? (l := tables_1_4) (i := 116) rfl)) rfl a
set_option maxRecDepth 100000 in
theorem q845 {s : State} {a : Array Value} (h : mT s) : (Jvm.Cond.methodLink "ShareVault" (93 : Nat) ({ cls := "ShareVault$State", name := "tryClose", desc := "()I" } : Jvm.MethodName)).before a s = true := h _ (tin4 (List.mem_of_getElem? (l := tables_1_4) (i := 125) rfl)) rfl a
set_option maxRecDepth 100000 in
theorem q846 {s : State} {a : Array Value} (h : mT s) : (Jvm.Cond.instanceMethod ({ cls := "ShareVault$State", name := "tryClose", desc := "()I" } : Jvm.MethodName)).before a s = true := h _ (tin4 (List.mem_of_getElem? (l := tables_1_4) (i := 126) rfl)) rfl a
set_option maxRecDepth 100000 in
theorem q847 {s : State} {a : Array Value} (h : mT s) : (Jvm.Cond.selects "ShareVault$State" ({ cls := "ShareVault$State", name := "tryClose", desc := "()I" } : Jvm.MethodName) ({ cls := "ShareVault$State", name := "tryClose", desc := "()I" } : Jvm.MethodName)).before a s = true := h _ (tin4 (List.mem_of_getElem? (l := tables_1_4) (i := 127) rfl)) rfl a
set_option maxRecDepth 100000 in
theorem q856 {s : State} {a : Array Value} (h : mT s) : (Jvm.Cond.methodLink "ShareVault" (96 : Nat) ({ cls := "ShareVault$State", name := "tryGuard", desc := "(IZI)I" } : Jvm.MethodName)).before a s = true := h _ (tin4 (List.mem_of_getElem? (l := tables_1_4) (i := 136) rfl)) rfl a
set_option maxRecDepth 100000 in
theorem q857 {s : State} {a : Array Value} (h : mT s) : (Jvm.Cond.instanceMethod ({ cls := "ShareVault$State", name := "tryGuard", desc := "(IZI)I" } : Jvm.MethodName)).before a s = true := h _ (tin4 (List.mem_of_getElem? (l := tables_1_4) (i := 137) rfl)) rfl a
set_option maxRecDepth 100000 in
theorem q858 {s : State} {a : Array Value} (h : mT s) : (Jvm.Cond.selects "ShareVault$State" ({ cls := "ShareVault$State", name := "tryGuard", desc := "(IZI)I" } : Jvm.MethodName) ({ cls := "ShareVault$State", name := "tryGuard", desc := "(IZI)I" } : Jvm.MethodName)).before a s = true := h _ (tin4 (List.mem_of_getElem? (l := tables_1_4) (i := 138) rfl)) rfl a
set_option maxRecDepth 100000 in
theorem q860 {s : State} {a : Array Value} (h : mT s) : (Jvm.Cond.methodLink "ShareVault$State" (139 : Nat) ({ cls := "ShareVault$Building", name := "hasZone", desc := "(I)Z" } : Jvm.MethodName)).before a s = true := h _ (tin4 (List.mem_of_getElem? (l := tables_1_4) (i := 140) rfl)) rfl a
set_option maxRecDepth 100000 in
theorem q861 {s : State} {a : Array Value} (h : mT s) : (Jvm.Cond.static ({ cls := "ShareVault$Building", name := "hasZone", desc := "(I)Z" } : Jvm.MethodName)).before a s = true := h _ (tin4 (List.mem_of_getElem? (l := tables_1_4) (i := 141) rfl)) rfl a
set_option maxRecDepth 100000 in
theorem q863 {s : State} {a : Array Value} (h : mT s) : (Jvm.Cond.methodLink "ShareVault$State" (142 : Nat) ({ cls := "ShareVault$Building", name := "placeGuard", desc := "(IZI)I" } : Jvm.MethodName)).before a s = true := h _ (tin4 (List.mem_of_getElem? (l := tables_1_4) (i := 143) rfl)) rfl a
set_option maxRecDepth 100000 in
theorem q864 {s : State} {a : Array Value} (h : mT s) : (Jvm.Cond.instanceMethod ({ cls := "ShareVault$Building", name := "placeGuard", desc := "(IZI)I" } : Jvm.MethodName)).before a s = true := h _ (tin4 (List.mem_of_getElem? (l := tables_1_4) (i := 144) rfl)) rfl a
set_option maxRecDepth 100000 in
theorem q865 {s : State} {a : Array Value} (h : mT s) : (Jvm.Cond.selects "ShareVault$Building" ({ cls := "ShareVault$Building", name := "placeGuard", desc := "(IZI)I" } : Jvm.MethodName) ({ cls := "ShareVault$Building", name := "placeGuard", desc := "(IZI)I" } : Jvm.MethodName)).before a s = true := h _ (tin4 (List.mem_of_getElem? (l := tables_1_4) (i := 145) rfl)) rfl a
set_option maxRecDepth 100000 in
theorem q874 {s : State} {a : Array Value} (h : mT s) : (Jvm.Cond.methodLink "ShareVault" (100 : Nat) ({ cls := "ShareVault$State", name := "tryTurn", desc := "(I)I" } : Jvm.MethodName)).before a s = true := h _ (tin4 (List.mem_of_getElem? (l := tables_1_4) (i := 154) rfl)) rfl a
set_option maxRecDepth 100000 in
theorem q875 {s : State} {a : Array Value} (h : mT s) : (Jvm.Cond.instanceMethod ({ cls := "ShareVault$State", name := "tryTurn", desc := "(I)I" } : Jvm.MethodName)).before a s = true := h _ (tin4 (List.mem_of_getElem? (l := tables_1_4) (i := 155) rfl)) rfl a
set_option maxRecDepth 100000 in
theorem q876 {s : State} {a : Array Value} (h : mT s) : (Jvm.Cond.selects "ShareVault$State" ({ cls := "ShareVault$State", name := "tryTurn", desc := "(I)I" } : Jvm.MethodName) ({ cls := "ShareVault$State", name := "tryTurn", desc := "(I)I" } : Jvm.MethodName)).before a s = true := h _ (tin4 (List.mem_of_getElem? (l := tables_1_4) (i := 156) rfl)) rfl a
set_option maxRecDepth 100000 in
theorem q878 {s : State} {a : Array Value} (h : mT s) : (Jvm.Cond.methodLink "ShareVault$State" (146 : Nat) ({ cls := "ShareVault$Building", name := "hasGuard", desc := "(I)Z" } : Jvm.MethodName)).before a s = true := h _ (tin4 (List.mem_of_getElem? (l := tables_1_4) (i := 158) rfl)) rfl a
set_option maxRecDepth 100000 in
theorem q879 {s : State} {a : Array Value} (h : mT s) : (Jvm.Cond.instanceMethod ({ cls := "ShareVault$Building", name := "hasGuard", desc := "(I)Z" } : Jvm.MethodName)).before a s = true := h _ (tin4 (List.mem_of_getElem? (l := tables_1_4) (i := 159) rfl)) rfl a
set_option maxRecDepth 100000 in
theorem q880 {s : State} {a : Array Value} (h : mT s) : (Jvm.Cond.selects "ShareVault$Building" ({ cls := "ShareVault$Building", name := "hasGuard", desc := "(I)Z" } : Jvm.MethodName) ({ cls := "ShareVault$Building", name := "hasGuard", desc := "(I)Z" } : Jvm.MethodName)).before a s = true := h _ (tin4 (List.mem_of_getElem? (l := tables_1_4) (i := 160) rfl)) rfl a
set_option maxRecDepth 100000 in
theorem q889 {s : State} {a : Array Value} (h : mT s) : (Jvm.Cond.methodLink "ShareVault" (103 : Nat) ({ cls := "ShareVault$State", name := "tryHum", desc := "(II)I" } : Jvm.MethodName)).before a s = true := h _ (tin4 (List.mem_of_getElem? (l := tables_1_4) (i := 169) rfl)) rfl a
set_option maxRecDepth 100000 in
theorem q890 {s : State} {a : Array Value} (h : mT s) : (Jvm.Cond.instanceMethod ({ cls := "ShareVault$State", name := "tryHum", desc := "(II)I" } : Jvm.MethodName)).before a s = true := h _ (tin4 (List.mem_of_getElem? (l := tables_1_4) (i := 170) rfl)) rfl a
set_option maxRecDepth 100000 in
theorem q891 {s : State} {a : Array Value} (h : mT s) : (Jvm.Cond.selects "ShareVault$State" ({ cls := "ShareVault$State", name := "tryHum", desc := "(II)I" } : Jvm.MethodName) ({ cls := "ShareVault$State", name := "tryHum", desc := "(II)I" } : Jvm.MethodName)).before a s = true := h _ (tin4 (List.mem_of_getElem? (l := tables_1_4) (i := 171) rfl)) rfl a
set_option maxRecDepth 100000 in
theorem q893 {s : State} {a : Array Value} (h : mT s) : (Jvm.Cond.methodLink "ShareVault$State" (156 : Nat) ({ cls := "java/lang/Math", name := "min", desc := "(II)I" } : Jvm.MethodName)).before a s = true := h _ (tin4 (List.mem_of_getElem? (l := tables_1_4) (i := 173) rfl)) rfl a
set_option maxRecDepth 100000 in
theorem q901 {s : State} {a : Array Value} (h : mT s) : (Jvm.Cond.methodLink "ShareVault" (106 : Nat) ({ cls := "ShareVault$State", name := "tryHours", desc := "(I)I" } : Jvm.MethodName)).before a s = true := h _ (tin4 (List.mem_of_getElem? (l := tables_1_4) (i := 181) rfl)) rfl a
set_option maxRecDepth 100000 in
theorem q902 {s : State} {a : Array Value} (h : mT s) : (Jvm.Cond.instanceMethod ({ cls := "ShareVault$State", name := "tryHours", desc := "(I)I" } : Jvm.MethodName)).before a s = true := h _ (tin4 (List.mem_of_getElem? (l := tables_1_4) (i := 182) rfl)) rfl a
set_option maxRecDepth 100000 in
theorem q903 {s : State} {a : Array Value} (h : mT s) : (Jvm.Cond.selects "ShareVault$State" ({ cls := "ShareVault$State", name := "tryHours", desc := "(I)I" } : Jvm.MethodName) ({ cls := "ShareVault$State", name := "tryHours", desc := "(I)I" } : Jvm.MethodName)).before a s = true := h _ (tin4 (List.mem_of_getElem? (l := tables_1_4) (i := 183) rfl)) rfl a
set_option maxRecDepth 100000 in
theorem q905 {s : State} {a : Array Value} (h : mT s) : (Jvm.Cond.methodLink "ShareVault$State" (165 : Nat) ({ cls := "ShareVault$Building", name := "passOneHour", desc := "()I" } : Jvm.MethodName)).before a s = true := h _ (tin4 (List.mem_of_getElem? (l := tables_1_4) (i := 185) rfl)) rfl a
set_option maxRecDepth 100000 in
theorem q906 {s : State} {a : Array Value} (h : mT s) : (Jvm.Cond.instanceMethod ({ cls := "ShareVault$Building", name := "passOneHour", desc := "()I" } : Jvm.MethodName)).before a s = true := h _ (tin4 (List.mem_of_getElem? (l := tables_1_4) (i := 186) rfl)) rfl a
set_option maxRecDepth 100000 in
theorem q907 {s : State} {a : Array Value} (h : mT s) : (Jvm.Cond.selects "ShareVault$Building" ({ cls := "ShareVault$Building", name := "passOneHour", desc := "()I" } : Jvm.MethodName) ({ cls := "ShareVault$Building", name := "passOneHour", desc := "()I" } : Jvm.MethodName)).before a s = true := h _ (tin4 (List.mem_of_getElem? (l := tables_1_4) (i := 187) rfl)) rfl a
set_option maxRecDepth 100000 in
theorem q909 {s : State} {a : Array Value} (h : mT s) : (Jvm.Cond.methodLink "ShareVault$Building" (48 : Nat) ({ cls := "ShareVault$Building", name := "beginHour", desc := "()V" } : Jvm.MethodName)).before a s = true := h _ (tin4 (List.mem_of_getElem? (l := tables_1_4) (i := 189) rfl)) rfl a
set_option maxRecDepth 100000 in
theorem q910 {s : State} {a : Array Value} (h : mT s) : (Jvm.Cond.methodLink "ShareVault$Building" (44 : Nat) ({ cls := "ShareVault$Building", name := "hasGuardIn", desc := "(I)Z" } : Jvm.MethodName)).before a s = true := h _ (tin4 (List.mem_of_getElem? (l := tables_1_4) (i := 190) rfl)) rfl a
set_option maxRecDepth 100000 in
theorem q911 {s : State} {a : Array Value} (h : mT s) : (Jvm.Cond.methodLink "ShareVault$Building" (51 : Nat) ({ cls := "ShareVault$Building", name := "hasGuardBeside", desc := "(I)Z" } : Jvm.MethodName)).before a s = true := h _ (tin4 (List.mem_of_getElem? (l := tables_1_4) (i := 191) rfl)) rfl a
set_option maxRecDepth 100000 in
theorem q912 {s : State} {a : Array Value} (h : mT s) : (Jvm.Cond.instanceMethod ({ cls := "ShareVault$Building", name := "hasGuardBeside", desc := "(I)Z" } : Jvm.MethodName)).before a s = true := h _ (tin4 (List.mem_of_getElem? (l := tables_1_4) (i := 192) rfl)) rfl a
set_option maxRecDepth 100000 in
theorem q913 {s : State} {a : Array Value} (h : mT s) : (Jvm.Cond.selects "ShareVault$Building" ({ cls := "ShareVault$Building", name := "hasGuardBeside", desc := "(I)Z" } : Jvm.MethodName) ({ cls := "ShareVault$Building", name := "hasGuardBeside", desc := "(I)Z" } : Jvm.MethodName)).before a s = true := h _ (tin4 (List.mem_of_getElem? (l := tables_1_4) (i := 193) rfl)) rfl a
set_option maxRecDepth 100000 in
theorem q915 {s : State} {a : Array Value} (h : mT s) : (Jvm.Cond.methodLink "ShareVault$State" (168 : Nat) ({ cls := "ShareVault$State", name := "enterAlarms", desc := "(I)V" } : Jvm.MethodName)).before a s = true := h _ (tin4 (List.mem_of_getElem? (l := tables_1_4) (i := 195) rfl)) rfl a
set_option maxRecDepth 100000 in
theorem q917 {s : State} {a : Array Value} (h : mT s) : (Jvm.Cond.instanceMethod ({ cls := "ShareVault$State", name := "enterAlarms", desc := "(I)V" } : Jvm.MethodName)).before a s = true := h _ (tin4 (List.mem_of_getElem? (l := tables_1_4) (i := 197) rfl)) rfl a
set_option maxRecDepth 100000 in
theorem q919 {s : State} {a : Array Value} (h : mT s) : (Jvm.Cond.methodLink "ShareVault$State" (172 : Nat) ({ cls := "ShareVault$Door", name := "passOneHour", desc := "()V" } : Jvm.MethodName)).before a s = true := h _ (tin4 (List.mem_of_getElem? (l := tables_1_4) (i := 199) rfl)) rfl a
set_option maxRecDepth 100000 in
theorem q920 {s : State} {a : Array Value} (h : mT s) : (Jvm.Cond.instanceMethod ({ cls := "ShareVault$Door", name := "passOneHour", desc := "()V" } : Jvm.MethodName)).before a s = true := h _ (tin4 (List.mem_of_getElem? (l := tables_1_4) (i := 200) rfl)) rfl a
set_option maxRecDepth 100000 in
theorem q921 {s : State} {a : Array Value} (h : mT s) : (Jvm.Cond.selects "ShareVault$Door" ({ cls := "ShareVault$Door", name := "passOneHour", desc := "()V" } : Jvm.MethodName) ({ cls := "ShareVault$Door", name := "passOneHour", desc := "()V" } : Jvm.MethodName)).before a s = true := h _ (tin4 (List.mem_of_getElem? (l := tables_1_4) (i := 201) rfl)) rfl a
set_option maxRecDepth 100000 in
theorem q931 {s : State} {a : Array Value} (h : mT s) : (Jvm.Cond.methodLink "ShareVault" (128 : Nat) ({ cls := "ShareVault", name := "requireSeal", desc := "()V" } : Jvm.MethodName)).before a s = true := h _ (tin4 (List.mem_of_getElem? (l := tables_1_4) (i := 211) rfl)) rfl a
set_option maxRecDepth 100000 in
theorem q933 {s : State} {a : Array Value} (h : mT s) : (Jvm.Cond.instanceMethod ({ cls := "ShareVault", name := "requireSeal", desc := "()V" } : Jvm.MethodName)).before a s = true := h _ (tin4 (List.mem_of_getElem? (l := tables_1_4) (i := 213) rfl)) rfl a
set_option maxRecDepth 100000 in
theorem q935 {s : State} {a : Array Value} (h : mT s) : (Jvm.Cond.classLink "ShareVault" (151 : Nat) "java/util/NoSuchElementException").before a s = true := h _ (tin4 (List.mem_of_getElem? (l := tables_1_4) (i := 215) rfl)) rfl a
set_option maxRecDepth 100000 in
theorem q958 {s : State} {a : Array Value} (h : mT s) : (Jvm.Cond.methodLink "ShareVault" (134 : Nat) ({ cls := "ShareVault", name := "requireHolder", desc := "(I)V" } : Jvm.MethodName)).before a s = true := h _ (tin4 (List.mem_of_getElem? (l := tables_1_4) (i := 238) rfl)) rfl a
set_option maxRecDepth 100000 in
theorem q960 {s : State} {a : Array Value} (h : mT s) : (Jvm.Cond.instanceMethod ({ cls := "ShareVault", name := "requireHolder", desc := "(I)V" } : Jvm.MethodName)).before a s = true := h _ (tin5 (List.mem_of_getElem? (l := tables_1_5) (i := 0) rfl)) rfl a
set_option maxRecDepth 100000 in
theorem q962 {s : State} {a : Array Value} (h : mT s) : (Jvm.Cond.methodLink "ShareVault" (406 : Nat) ({ cls := "ShareVault$Keys", name := "hasHolder", desc := "(I)Z" } : Jvm.MethodName)).before a s = true := h _ (tin5 (List.mem_of_getElem? (l := tables_1_5) (i := 2) rfl)) rfl a
set_option maxRecDepth 100000 in
theorem q971 {s : State} {a : Array Value} (h : mT s) : (Jvm.Cond.methodLink "ShareVault" (142 : Nat) ({ cls := "ShareVault$Keys", name := "correctShare", desc := "(I)I" } : Jvm.MethodName)).before a s = true := h _ (tin5 (List.mem_of_getElem? (l := tables_1_5) (i := 11) rfl)) rfl a
set_option maxRecDepth 100000 in
theorem q979 {s : State} {a : Array Value} (h : mT s) : (Jvm.Cond.methodLink "ShareVault" (145 : Nat) ({ cls := "ShareVault$Keys", name := "placeOf", desc := "(I)I" } : Jvm.MethodName)).before a s = true := h _ (tin5 (List.mem_of_getElem? (l := tables_1_5) (i := 19) rfl)) rfl a
set_option maxRecDepth 100000 in
theorem q995 {s : State} {a : Array Value} (h : mT s) : (Jvm.Cond.methodLink "ShareVault" (161 : Nat) ({ cls := "ShareVault", name := "requireEnoughKeys", desc := "()V" } : Jvm.MethodName)).before a s = true := h _ (tin5 (List.mem_of_getElem? (l := tables_1_5) (i := 35) rfl)) rfl a
set_option maxRecDepth 100000 in
theorem q997 {s : State} {a : Array Value} (h : mT s) : (Jvm.Cond.instanceMethod ({ cls := "ShareVault", name := "requireEnoughKeys", desc := "()V" } : Jvm.MethodName)).before a s = true := h _ (tin5 (List.mem_of_getElem? (l := tables_1_5) (i := 37) rfl)) rfl a
set_option maxRecDepth 100000 in
theorem q1022 {s : State} {a : Array Value} (h : mT s) : (Jvm.Cond.methodLink "ShareVault" (176 : Nat) ({ cls := "ShareVault$Keys", name := "allAgree", desc := "()Z" } : Jvm.MethodName)).before a s = true := h _ (tin5 (List.mem_of_getElem? (l := tables_1_5) (i := 62) rfl)) rfl a
set_option maxRecDepth 100000 in
theorem q1023 {s : State} {a : Array Value} (h : mT s) : (Jvm.Cond.instanceMethod ({ cls := "ShareVault$Keys", name := "allAgree", desc := "()Z" } : Jvm.MethodName)).before a s = true := h _ (tin5 (List.mem_of_getElem? (l := tables_1_5) (i := 63) rfl)) rfl a
set_option maxRecDepth 100000 in
theorem q1024 {s : State} {a : Array Value} (h : mT s) : (Jvm.Cond.selects "ShareVault$Keys" ({ cls := "ShareVault$Keys", name := "allAgree", desc := "()Z" } : Jvm.MethodName) ({ cls := "ShareVault$Keys", name := "allAgree", desc := "()Z" } : Jvm.MethodName)).before a s = true := h _ (tin5 (List.mem_of_getElem? (l := tables_1_5) (i := 64) rfl)) rfl a
set_option maxRecDepth 100000 in
theorem q1047 {s : State} {a : Array Value} (h : mT s) : (Jvm.Cond.methodLink "ShareVault" (204 : Nat) ({ cls := "ShareVault", name := "requireGuard", desc := "(I)V" } : Jvm.MethodName)).before a s = true := h _ (tin5 (List.mem_of_getElem? (l := tables_1_5) (i := 87) rfl)) rfl a
set_option maxRecDepth 100000 in
theorem q1049 {s : State} {a : Array Value} (h : mT s) : (Jvm.Cond.instanceMethod ({ cls := "ShareVault", name := "requireGuard", desc := "(I)V" } : Jvm.MethodName)).before a s = true := h _ (tin5 (List.mem_of_getElem? (l := tables_1_5) (i := 89) rfl)) rfl a
set_option maxRecDepth 100000 in
theorem q1051 {s : State} {a : Array Value} (h : mT s) : (Jvm.Cond.methodLink "ShareVault" (411 : Nat) ({ cls := "ShareVault$Building", name := "hasGuard", desc := "(I)Z" } : Jvm.MethodName)).before a s = true := h _ (tin5 (List.mem_of_getElem? (l := tables_1_5) (i := 91) rfl)) rfl a
set_option maxRecDepth 100000 in
theorem q1067 {s : State} {a : Array Value} (h : mT s) : (Jvm.Cond.methodLink "ShareVault" (214 : Nat) ({ cls := "ShareVault", name := "requireZone", desc := "(I)V" } : Jvm.MethodName)).before a s = true := h _ (tin5 (List.mem_of_getElem? (l := tables_1_5) (i := 107) rfl)) rfl a
set_option maxRecDepth 100000 in
theorem q1069 {s : State} {a : Array Value} (h : mT s) : (Jvm.Cond.instanceMethod ({ cls := "ShareVault", name := "requireZone", desc := "(I)V" } : Jvm.MethodName)).before a s = true := h _ (tin5 (List.mem_of_getElem? (l := tables_1_5) (i := 109) rfl)) rfl a
set_option maxRecDepth 100000 in
theorem q1071 {s : State} {a : Array Value} (h : mT s) : (Jvm.Cond.methodLink "ShareVault" (418 : Nat) ({ cls := "ShareVault$Building", name := "hasZone", desc := "(I)Z" } : Jvm.MethodName)).before a s = true := h _ (tin5 (List.mem_of_getElem? (l := tables_1_5) (i := 111) rfl)) rfl a
set_option maxRecDepth 100000 in
theorem q1080 {s : State} {a : Array Value} (h : mT s) : (Jvm.Cond.methodLink "ShareVault" (224 : Nat) ({ cls := "ShareVault$Building", name := "hasGuardBeside", desc := "(I)Z" } : Jvm.MethodName)).before a s = true := h _ (tin5 (List.mem_of_getElem? (l := tables_1_5) (i := 120) rfl)) rfl a
set_option maxRecDepth 100000 in
theorem q1088 {s : State} {a : Array Value} (h : mT s) : (Jvm.Cond.methodLink "ShareVault" (227 : Nat) ({ cls := "ShareVault", name := "requireGuards", desc := "()V" } : Jvm.MethodName)).before a s = true := h _ (tin5 (List.mem_of_getElem? (l := tables_1_5) (i := 128) rfl)) rfl a
set_option maxRecDepth 100000 in
theorem q1090 {s : State} {a : Array Value} (h : mT s) : (Jvm.Cond.instanceMethod ({ cls := "ShareVault", name := "requireGuards", desc := "()V" } : Jvm.MethodName)).before a s = true := h _ (tin5 (List.mem_of_getElem? (l := tables_1_5) (i := 130) rfl)) rfl a
set_option maxRecDepth 100000 in
theorem q1108 {s : State} {a : Array Value} (h : mT s) : (Jvm.Cond.methodLink "ShareVault" (242 : Nat) ({ cls := "ShareVault$Building", name := "passOneHour", desc := "()I" } : Jvm.MethodName)).before a s = true := h _ (tin5 (List.mem_of_getElem? (l := tables_1_5) (i := 148) rfl)) rfl a
set_option maxRecDepth 100000 in
theorem q1117 {s : State} {a : Array Value} (h : mT s) : (Jvm.Cond.methodLink "ShareVault" (250 : Nat) ({ cls := "ShareVault$Building", name := "zoneAtRank", desc := "(I)I" } : Jvm.MethodName)).before a s = true := h _ (tin5 (List.mem_of_getElem? (l := tables_1_5) (i := 157) rfl)) rfl a
set_option maxRecDepth 100000 in
theorem q1118 {s : State} {a : Array Value} (h : mT s) : (Jvm.Cond.instanceMethod ({ cls := "ShareVault$Building", name := "zoneAtRank", desc := "(I)I" } : Jvm.MethodName)).before a s = true := h _ (tin5 (List.mem_of_getElem? (l := tables_1_5) (i := 158) rfl)) rfl a
set_option maxRecDepth 100000 in
theorem q1119 {s : State} {a : Array Value} (h : mT s) : (Jvm.Cond.selects "ShareVault$Building" ({ cls := "ShareVault$Building", name := "zoneAtRank", desc := "(I)I" } : Jvm.MethodName) ({ cls := "ShareVault$Building", name := "zoneAtRank", desc := "(I)I" } : Jvm.MethodName)).before a s = true := h _ (tin5 (List.mem_of_getElem? (l := tables_1_5) (i := 159) rfl)) rfl a
set_option maxRecDepth 100000 in
theorem q1121 {s : State} {a : Array Value} (h : mT s) : (Jvm.Cond.methodLink "ShareVault$Building" (66 : Nat) ({ cls := "ShareVault$Building", name := "rankOf", desc := "(I)I" } : Jvm.MethodName)).before a s = true := h _ (tin5 (List.mem_of_getElem? (l := tables_1_5) (i := 161) rfl)) rfl a
set_option maxRecDepth 100000 in
theorem q1123 {s : State} {a : Array Value} (h : mT s) : (Jvm.Cond.instanceMethod ({ cls := "ShareVault$Building", name := "rankOf", desc := "(I)I" } : Jvm.MethodName)).before a s = true := h _ (tin5 (List.mem_of_getElem? (l := tables_1_5) (i := 163) rfl)) rfl a
set_option maxRecDepth 100000 in
theorem q1125 {s : State} {a : Array Value} (h : mT s) : (Jvm.Cond.methodLink "ShareVault$Building" (70 : Nat) ({ cls := "ShareVault$Building", name := "comesBefore", desc := "(II)Z" } : Jvm.MethodName)).before a s = true := h _ (tin5 (List.mem_of_getElem? (l := tables_1_5) (i := 165) rfl)) rfl a
set_option maxRecDepth 100000 in
theorem q1127 {s : State} {a : Array Value} (h : mT s) : (Jvm.Cond.instanceMethod ({ cls := "ShareVault$Building", name := "comesBefore", desc := "(II)Z" } : Jvm.MethodName)).before a s = true := h _ (tin5 (List.mem_of_getElem? (l := tables_1_5) (i := 167) rfl)) rfl a
set_option maxRecDepth 100000 in
theorem q1143 {s : State} {a : Array Value} (h : mT s) : (Jvm.Cond.methodLink "ShareVault" (268 : Nat) ({ cls := "ShareVault", name := "requireEntry", desc := "(I)V" } : Jvm.MethodName)).before a s = true := h _ (tin5 (List.mem_of_getElem? (l := tables_1_5) (i := 183) rfl)) rfl a
set_option maxRecDepth 100000 in
theorem q1145 {s : State} {a : Array Value} (h : mT s) : (Jvm.Cond.instanceMethod ({ cls := "ShareVault", name := "requireEntry", desc := "(I)V" } : Jvm.MethodName)).before a s = true := h _ (tin5 (List.mem_of_getElem? (l := tables_1_5) (i := 185) rfl)) rfl a
set_option maxRecDepth 100000 in
theorem q1183 {s : State} {a : Array Value} (h : mT s) : (Jvm.Cond.classLink "ShareVault" (287 : Nat) "java/lang/ArithmeticException").before a s = true := h _ (tin5 (List.mem_of_getElem? (l := tables_1_5) (i := 223) rfl)) rfl a
set_option maxRecDepth 100000 in
theorem q1193 {s : State} {a : Array Value} (h : mT s) : (Jvm.Cond.methodLink "ShareVault" (298 : Nat) ({ cls := "ShareVault", name := "requireRefusal", desc := "()V" } : Jvm.MethodName)).before a s = true := h _ (tin5 (List.mem_of_getElem? (l := tables_1_5) (i := 233) rfl)) rfl a
set_option maxRecDepth 100000 in
theorem q1195 {s : State} {a : Array Value} (h : mT s) : (Jvm.Cond.instanceMethod ({ cls := "ShareVault", name := "requireRefusal", desc := "()V" } : Jvm.MethodName)).before a s = true := h _ (tin5 (List.mem_of_getElem? (l := tables_1_5) (i := 235) rfl)) rfl a
set_option maxRecDepth 100000 in
theorem q1221 {s : State} {a : Array Value} (h : mT s) : (Jvm.Cond.classLink "ShareVault" (309 : Nat) "java/lang/IllegalStateException").before a s = true := h _ (tin6 (List.mem_of_getElem? (l := tables_1_6) (i := 21) rfl)) rfl a
set_option maxRecDepth 100000 in
theorem q1237 {s : State} {a : Array Value} (h : mT s) : (Jvm.Cond.methodLink "ShareVault" (314 : Nat) ({ cls := "ShareVault$Commands", name := "append", desc := "(C)I" } : Jvm.MethodName)).before a s = true := h _ (tin6 (List.mem_of_getElem? (l := tables_1_6) (i := 37) rfl)) rfl a
set_option maxRecDepth 100000 in
theorem q1238 {s : State} {a : Array Value} (h : mT s) : (Jvm.Cond.instanceMethod ({ cls := "ShareVault$Commands", name := "append", desc := "(C)I" } : Jvm.MethodName)).before a s = true := h _ (tin6 (List.mem_of_getElem? (l := tables_1_6) (i := 38) rfl)) rfl a
set_option maxRecDepth 100000 in
theorem q1239 {s : State} {a : Array Value} (h : mT s) : (Jvm.Cond.selects "ShareVault$Commands" ({ cls := "ShareVault$Commands", name := "append", desc := "(C)I" } : Jvm.MethodName) ({ cls := "ShareVault$Commands", name := "append", desc := "(C)I" } : Jvm.MethodName)).before a s = true := h _ (tin6 (List.mem_of_getElem? (l := tables_1_6) (i := 39) rfl)) rfl a
set_option maxRecDepth 100000 in
theorem q1248 {s : State} {a : Array Value} (h : mT s) : (Jvm.Cond.methodLink "ShareVault" (318 : Nat) ({ cls := "ShareVault$Commands", name := "parse", desc := "()I" } : Jvm.MethodName)).before a s = true := h _ (tin6 (List.mem_of_getElem? (l := tables_1_6) (i := 48) rfl)) rfl a
set_option maxRecDepth 100000 in
theorem q1249 {s : State} {a : Array Value} (h : mT s) : (Jvm.Cond.instanceMethod ({ cls := "ShareVault$Commands", name := "parse", desc := "()I" } : Jvm.MethodName)).before a s = true := h _ (tin6 (List.mem_of_getElem? (l := tables_1_6) (i := 49) rfl)) rfl a
set_option maxRecDepth 100000 in
theorem q1250 {s : State} {a : Array Value} (h : mT s) : (Jvm.Cond.selects "ShareVault$Commands" ({ cls := "ShareVault$Commands", name := "parse", desc := "()I" } : Jvm.MethodName) ({ cls := "ShareVault$Commands", name := "parse", desc := "()I" } : Jvm.MethodName)).before a s = true := h _ (tin6 (List.mem_of_getElem? (l := tables_1_6) (i := 50) rfl)) rfl a
set_option maxRecDepth 100000 in
theorem q1252 {s : State} {a : Array Value} (h : mT s) : (Jvm.Cond.methodLink "ShareVault$Commands" (36 : Nat) ({ cls := "ShareVault$Commands", name := "readCommand", desc := "()Z" } : Jvm.MethodName)).before a s = true := h _ (tin6 (List.mem_of_getElem? (l := tables_1_6) (i := 52) rfl)) rfl a
set_option maxRecDepth 100000 in
theorem q1254 {s : State} {a : Array Value} (h : mT s) : (Jvm.Cond.instanceMethod ({ cls := "ShareVault$Commands", name := "readCommand", desc := "()Z" } : Jvm.MethodName)).before a s = true := h _ (tin6 (List.mem_of_getElem? (l := tables_1_6) (i := 54) rfl)) rfl a
set_option maxRecDepth 100000 in
theorem q1256 {s : State} {a : Array Value} (h : mT s) : (Jvm.Cond.methodLink "ShareVault$Commands" (44 : Nat) ({ cls := "ShareVault$Commands", name := "readWord", desc := "()LShareVault$Word;" } : Jvm.MethodName)).before a s = true := h _ (tin6 (List.mem_of_getElem? (l := tables_1_6) (i := 56) rfl)) rfl a
set_option maxRecDepth 100000 in
theorem q1258 {s : State} {a : Array Value} (h : mT s) : (Jvm.Cond.instanceMethod ({ cls := "ShareVault$Commands", name := "readWord", desc := "()LShareVault$Word;" } : Jvm.MethodName)).before a s = true := h _ (tin6 (List.mem_of_getElem? (l := tables_1_6) (i := 58) rfl)) rfl a
set_option maxRecDepth 100000 in
theorem q1260 {s : State} {a : Array Value} (h : mT s) : (Jvm.Cond.fieldLink "ShareVault$Commands" (59 : Nat) "ShareVault$Commands" "WORDS" "[LShareVault$Word;").before a s = true := h _ (tin6 (List.mem_of_getElem? (l := tables_1_6) (i := 60) rfl)) rfl a
set_option maxRecDepth 100000 in
theorem q1262 {s : State} {a : Array Value} (h : mT s) : (Jvm.Cond.methodLink "ShareVault$Commands" (65 : Nat) ({ cls := "ShareVault$Commands", name := "matchingLetters", desc := "(Ljava/lang/String;)I" } : Jvm.MethodName)).before a s = true := h _ (tin6 (List.mem_of_getElem? (l := tables_1_6) (i := 62) rfl)) rfl a
set_option maxRecDepth 100000 in
theorem q1264 {s : State} {a : Array Value} (h : mT s) : (Jvm.Cond.instanceMethod ({ cls := "ShareVault$Commands", name := "matchingLetters", desc := "(Ljava/lang/String;)I" } : Jvm.MethodName)).before a s = true := h _ (tin6 (List.mem_of_getElem? (l := tables_1_6) (i := 64) rfl)) rfl a
set_option maxRecDepth 100000 in
theorem q1266 {s : State} {a : Array Value} (h : mT s) : (Jvm.Cond.methodLink "ShareVault$Commands" (69 : Nat) ({ cls := "java/lang/String", name := "length", desc := "()I" } : Jvm.MethodName)).before a s = true := h _ (tin6 (List.mem_of_getElem? (l := tables_1_6) (i := 66) rfl)) rfl a
set_option maxRecDepth 100000 in
theorem q1267 {s : State} {a : Array Value} (h : mT s) : (Jvm.Cond.instanceMethod ({ cls := "java/lang/String", name := "length", desc := "()I" } : Jvm.MethodName)).before a s = true := h _ (tin6 (List.mem_of_getElem? (l := tables_1_6) (i := 67) rfl)) rfl a
set_option maxRecDepth 100000 in
theorem q1268 {s : State} {a : Array Value} (h : mT s) : (Jvm.Cond.selects "java/lang/String" ({ cls := "java/lang/String", name := "length", desc := "()I" } : Jvm.MethodName) ({ cls := "java/lang/String", name := "length", desc := "()I" } : Jvm.MethodName)).before a s = true := h _ (tin6 (List.mem_of_getElem? (l := tables_1_6) (i := 68) rfl)) rfl a
set_option maxRecDepth 100000 in
theorem q1270 {s : State} {a : Array Value} (h : mT s) : (Jvm.Cond.methodLink "java/lang/String" (335 : Nat) ({ cls := "java/lang/String", name := "coder", desc := "()B" } : Jvm.MethodName)).before a s = true := h _ (tin6 (List.mem_of_getElem? (l := tables_1_6) (i := 70) rfl)) rfl a
set_option maxRecDepth 100000 in
theorem q1271 {s : State} {a : Array Value} (h : mT s) : (Jvm.Cond.instanceMethod ({ cls := "java/lang/String", name := "coder", desc := "()B" } : Jvm.MethodName)).before a s = true := h _ (tin6 (List.mem_of_getElem? (l := tables_1_6) (i := 71) rfl)) rfl a
set_option maxRecDepth 100000 in
theorem q1272 {s : State} {a : Array Value} (h : mT s) : (Jvm.Cond.selects "java/lang/String" ({ cls := "java/lang/String", name := "coder", desc := "()B" } : Jvm.MethodName) ({ cls := "java/lang/String", name := "coder", desc := "()B" } : Jvm.MethodName)).before a s = true := h _ (tin6 (List.mem_of_getElem? (l := tables_1_6) (i := 72) rfl)) rfl a
set_option maxRecDepth 100000 in
theorem q1274 {s : State} {a : Array Value} (h : mT s) : (Jvm.Cond.fieldLink "java/lang/String" (38 : Nat) "java/lang/String" "COMPACT_STRINGS" "Z").before a s = true := h _ (tin6 (List.mem_of_getElem? (l := tables_1_6) (i := 74) rfl)) rfl a
set_option maxRecDepth 100000 in
theorem q1276 {s : State} {a : Array Value} (h : mT s) : (Jvm.Cond.methodLink "ShareVault$Commands" (79 : Nat) ({ cls := "java/lang/String", name := "charAt", desc := "(I)C" } : Jvm.MethodName)).before a s = true := h _ (tin6 (List.mem_of_getElem? (l := tables_1_6) (i := 76) rfl)) rfl a
set_option maxRecDepth 100000 in
theorem q1277 {s : State} {a : Array Value} (h : mT s) : (Jvm.Cond.instanceMethod ({ cls := "java/lang/String", name := "charAt", desc := "(I)C" } : Jvm.MethodName)).before a s = true := h _ (tin6 (List.mem_of_getElem? (l := tables_1_6) (i := 77) rfl)) rfl a
set_option maxRecDepth 100000 in
theorem q1278 {s : State} {a : Array Value} (h : mT s) : (Jvm.Cond.selects "java/lang/String" ({ cls := "java/lang/String", name := "charAt", desc := "(I)C" } : Jvm.MethodName) ({ cls := "java/lang/String", name := "charAt", desc := "(I)C" } : Jvm.MethodName)).before a s = true := h _ (tin6 (List.mem_of_getElem? (l := tables_1_6) (i := 78) rfl)) rfl a
set_option maxRecDepth 100000 in
theorem q1280 {s : State} {a : Array Value} (h : mT s) : (Jvm.Cond.methodLink "java/lang/String" (492 : Nat) ({ cls := "java/lang/String", name := "isLatin1", desc := "()Z" } : Jvm.MethodName)).before a s = true := h _ (tin6 (List.mem_of_getElem? (l := tables_1_6) (i := 80) rfl)) rfl a
set_option maxRecDepth 100000 in
theorem q1281 {s : State} {a : Array Value} (h : mT s) : (Jvm.Cond.instanceMethod ({ cls := "java/lang/String", name := "isLatin1", desc := "()Z" } : Jvm.MethodName)).before a s = true := h _ (tin6 (List.mem_of_getElem? (l := tables_1_6) (i := 81) rfl)) rfl a
set_option maxRecDepth 100000 in
theorem q1282 {s : State} {a : Array Value} (h : mT s) : (Jvm.Cond.selects "java/lang/String" ({ cls := "java/lang/String", name := "isLatin1", desc := "()Z" } : Jvm.MethodName) ({ cls := "java/lang/String", name := "isLatin1", desc := "()Z" } : Jvm.MethodName)).before a s = true := h _ (tin6 (List.mem_of_getElem? (l := tables_1_6) (i := 82) rfl)) rfl a
set_option maxRecDepth 100000 in
theorem q1284 {s : State} {a : Array Value} (h : mT s) : (Jvm.Cond.methodLink "java/lang/String" (495 : Nat) ({ cls := "java/lang/StringLatin1", name := "charAt", desc := "([BI)C" } : Jvm.MethodName)).before a s = true := h _ (tin6 (List.mem_of_getElem? (l := tables_1_6) (i := 84) rfl)) rfl a
set_option maxRecDepth 100000 in
theorem q1285 {s : State} {a : Array Value} (h : mT s) : (Jvm.Cond.static ({ cls := "java/lang/StringLatin1", name := "charAt", desc := "([BI)C" } : Jvm.MethodName)).before a s = true := h _ (tin6 (List.mem_of_getElem? (l := tables_1_6) (i := 85) rfl)) rfl a
set_option maxRecDepth 100000 in
theorem q1287 {s : State} {a : Array Value} (h : mT s) : (Jvm.Cond.methodLink "java/lang/StringLatin1" (9 : Nat) ({ cls := "java/lang/String", name := "checkIndex", desc := "(II)V" } : Jvm.MethodName)).before a s = true := h _ (tin6 (List.mem_of_getElem? (l := tables_1_6) (i := 87) rfl)) rfl a
set_option maxRecDepth 100000 in
theorem q1288 {s : State} {a : Array Value} (h : mT s) : (Jvm.Cond.static ({ cls := "java/lang/String", name := "checkIndex", desc := "(II)V" } : Jvm.MethodName)).before a s = true := h _ (tin6 (List.mem_of_getElem? (l := tables_1_6) (i := 88) rfl)) rfl a
set_option maxRecDepth 100000 in
theorem q1290 {s : State} {a : Array Value} (h : mT s) : (Jvm.Cond.fieldLink "java/lang/String" (1053 : Nat) "jdk/internal/util/Preconditions" "SIOOBE_FORMATTER" "Ljava/util/function/BiFunction;").before a s = true := h _ (tin6 (List.mem_of_getElem? (l := tables_1_6) (i := 90) rfl)) rfl a
set_option maxRecDepth 100000 in
theorem q1292 {s : State} {a : Array Value} (h : mT s) : (Jvm.Cond.methodLink "java/lang/String" (1059 : Nat) ({ cls := "jdk/internal/util/Preconditions", name := "checkIndex", desc := "(IILjava/util/function/BiFunction;)I" } : Jvm.MethodName)).before a s = true := h _ (tin6 (List.mem_of_getElem? (l := tables_1_6) (i := 92) rfl)) rfl a
set_option maxRecDepth 100000 in
theorem q1293 {s : State} {a : Array Value} (h : mT s) : (Jvm.Cond.static ({ cls := "jdk/internal/util/Preconditions", name := "checkIndex", desc := "(IILjava/util/function/BiFunction;)I" } : Jvm.MethodName)).before a s = true := h _ (tin6 (List.mem_of_getElem? (l := tables_1_6) (i := 93) rfl)) rfl a
set_option maxRecDepth 100000 in
theorem q1314 {s : State} {a : Array Value} (h : mT s) : (Jvm.Cond.methodLink "ShareVault$Commands" (73 : Nat) ({ cls := "java/lang/Math", name := "max", desc := "(II)I" } : Jvm.MethodName)).before a s = true := h _ (tin6 (List.mem_of_getElem? (l := tables_1_6) (i := 114) rfl)) rfl a
set_option maxRecDepth 100000 in
theorem q1315 {s : State} {a : Array Value} (h : mT s) : (Jvm.Cond.methodLink "ShareVault$Commands" (55 : Nat) ({ cls := "ShareVault$Commands", name := "readForm", desc := "(Ljava/lang/String;)Z" } : Jvm.MethodName)).before a s = true := h _ (tin6 (List.mem_of_getElem? (l := tables_1_6) (i := 115) rfl)) rfl a
set_option maxRecDepth 100000 in
theorem q1317 {s : State} {a : Array Value} (h : mT s) : (Jvm.Cond.instanceMethod ({ cls := "ShareVault$Commands", name := "readForm", desc := "(Ljava/lang/String;)Z" } : Jvm.MethodName)).before a s = true := h _ (tin6 (List.mem_of_getElem? (l := tables_1_6) (i := 117) rfl)) rfl a
set_option maxRecDepth 100000 in
theorem q1319 {s : State} {a : Array Value} (h : mT s) : (Jvm.Cond.methodLink "ShareVault$Commands" (40 : Nat) ({ cls := "ShareVault$Commands", name := "peek", desc := "()I" } : Jvm.MethodName)).before a s = true := h _ (tin6 (List.mem_of_getElem? (l := tables_1_6) (i := 119) rfl)) rfl a
set_option maxRecDepth 100000 in
theorem q1321 {s : State} {a : Array Value} (h : mT s) : (Jvm.Cond.instanceMethod ({ cls := "ShareVault$Commands", name := "peek", desc := "()I" } : Jvm.MethodName)).before a s = true := h _ (tin6 (List.mem_of_getElem? (l := tables_1_6) (i := 121) rfl)) rfl a
set_option maxRecDepth 100000 in
theorem q1323 {s : State} {a : Array Value} (h : mT s) : (Jvm.Cond.methodLink "ShareVault$Commands" (83 : Nat) ({ cls := "ShareVault$Commands", name := "addNumber", desc := "(I)V" } : Jvm.MethodName)).before a s = true := h _ (tin6 (List.mem_of_getElem? (l := tables_1_6) (i := 123) rfl)) rfl a
set_option maxRecDepth 100000 in
theorem q1325 {s : State} {a : Array Value} (h : mT s) : (Jvm.Cond.instanceMethod ({ cls := "ShareVault$Commands", name := "addNumber", desc := "(I)V" } : Jvm.MethodName)).before a s = true := h _ (tin6 (List.mem_of_getElem? (l := tables_1_6) (i := 125) rfl)) rfl a
set_option maxRecDepth 100000 in
theorem q1327 {s : State} {a : Array Value} (h : mT s) : (Jvm.Cond.methodLink "ShareVault$Commands" (87 : Nat) ({ cls := "ShareVault$Commands", name := "readPart", desc := "(C)Z" } : Jvm.MethodName)).before a s = true := h _ (tin6 (List.mem_of_getElem? (l := tables_1_6) (i := 127) rfl)) rfl a
set_option maxRecDepth 100000 in
theorem q1329 {s : State} {a : Array Value} (h : mT s) : (Jvm.Cond.instanceMethod ({ cls := "ShareVault$Commands", name := "readPart", desc := "(C)Z" } : Jvm.MethodName)).before a s = true := h _ (tin6 (List.mem_of_getElem? (l := tables_1_6) (i := 129) rfl)) rfl a
set_option maxRecDepth 100000 in
theorem q1331 {s : State} {a : Array Value} (h : mT s) : (Jvm.Cond.methodLink "ShareVault$Commands" (91 : Nat) ({ cls := "ShareVault$Commands", name := "readNumber", desc := "(I)Z" } : Jvm.MethodName)).before a s = true := h _ (tin6 (List.mem_of_getElem? (l := tables_1_6) (i := 131) rfl)) rfl a
set_option maxRecDepth 100000 in
theorem q1333 {s : State} {a : Array Value} (h : mT s) : (Jvm.Cond.instanceMethod ({ cls := "ShareVault$Commands", name := "readNumber", desc := "(I)Z" } : Jvm.MethodName)).before a s = true := h _ (tin6 (List.mem_of_getElem? (l := tables_1_6) (i := 133) rfl)) rfl a
set_option maxRecDepth 100000 in
theorem q1335 {s : State} {a : Array Value} (h : mT s) : (Jvm.Cond.methodLink "ShareVault$Commands" (95 : Nat) ({ cls := "ShareVault$Commands", name := "readDirection", desc := "()Z" } : Jvm.MethodName)).before a s = true := h _ (tin6 (List.mem_of_getElem? (l := tables_1_6) (i := 135) rfl)) rfl a
set_option maxRecDepth 100000 in
theorem q1337 {s : State} {a : Array Value} (h : mT s) : (Jvm.Cond.instanceMethod ({ cls := "ShareVault$Commands", name := "readDirection", desc := "()Z" } : Jvm.MethodName)).before a s = true := h _ (tin6 (List.mem_of_getElem? (l := tables_1_6) (i := 137) rfl)) rfl a
set_option maxRecDepth 100000 in
theorem q1339 {s : State} {a : Array Value} (h : mT s) : (Jvm.Cond.methodLink "ShareVault$Commands" (98 : Nat) ({ cls := "ShareVault$Commands", name := "readBlank", desc := "()Z" } : Jvm.MethodName)).before a s = true := h _ (tin6 (List.mem_of_getElem? (l := tables_1_6) (i := 139) rfl)) rfl a
set_option maxRecDepth 100000 in
theorem q1341 {s : State} {a : Array Value} (h : mT s) : (Jvm.Cond.instanceMethod ({ cls := "ShareVault$Commands", name := "readBlank", desc := "()Z" } : Jvm.MethodName)).before a s = true := h _ (tin6 (List.mem_of_getElem? (l := tables_1_6) (i := 141) rfl)) rfl a
set_option maxRecDepth 100000 in
theorem q1343 {s : State} {a : Array Value} (h : mT s) : (Jvm.Cond.methodLink "ShareVault" (321 : Nat) ({ cls := "ShareVault$Commands", name := "clear", desc := "()V" } : Jvm.MethodName)).before a s = true := h _ (tin6 (List.mem_of_getElem? (l := tables_1_6) (i := 143) rfl)) rfl a
set_option maxRecDepth 100000 in
theorem q1344 {s : State} {a : Array Value} (h : mT s) : (Jvm.Cond.instanceMethod ({ cls := "ShareVault$Commands", name := "clear", desc := "()V" } : Jvm.MethodName)).before a s = true := h _ (tin6 (List.mem_of_getElem? (l := tables_1_6) (i := 144) rfl)) rfl a
set_option maxRecDepth 100000 in
theorem q1345 {s : State} {a : Array Value} (h : mT s) : (Jvm.Cond.selects "ShareVault$Commands" ({ cls := "ShareVault$Commands", name := "clear", desc := "()V" } : Jvm.MethodName) ({ cls := "ShareVault$Commands", name := "clear", desc := "()V" } : Jvm.MethodName)).before a s = true := h _ (tin6 (List.mem_of_getElem? (l := tables_1_6) (i := 145) rfl)) rfl a
set_option maxRecDepth 100000 in
theorem q1348 {s : State} {a : Array Value} (h : mT s) : (Jvm.Cond.methodLink "ShareVault" (335 : Nat) ({ cls := "ShareVault$State", name := "tryCommand", desc := "(LShareVault$Word;[I)I" } : Jvm.MethodName)).before a s = true := h _ (tin6 (List.mem_of_getElem? (l := tables_1_6) (i := 148) rfl)) rfl a
set_option maxRecDepth 100000 in
theorem q1349 {s : State} {a : Array Value} (h : mT s) : (Jvm.Cond.instanceMethod ({ cls := "ShareVault$State", name := "tryCommand", desc := "(LShareVault$Word;[I)I" } : Jvm.MethodName)).before a s = true := h _ (tin6 (List.mem_of_getElem? (l := tables_1_6) (i := 149) rfl)) rfl a
set_option maxRecDepth 100000 in
theorem q1350 {s : State} {a : Array Value} (h : mT s) : (Jvm.Cond.selects "ShareVault$State" ({ cls := "ShareVault$State", name := "tryCommand", desc := "(LShareVault$Word;[I)I" } : Jvm.MethodName) ({ cls := "ShareVault$State", name := "tryCommand", desc := "(LShareVault$Word;[I)I" } : Jvm.MethodName)).before a s = true := h _ (tin6 (List.mem_of_getElem? (l := tables_1_6) (i := 150) rfl)) rfl a
set_option maxRecDepth 100000 in
theorem q1352 {s : State} {a : Array Value} (h : mT s) : (Jvm.Cond.fieldLink "ShareVault$State" (174 : Nat) "ShareVault$1" "$SwitchMap$ShareVault$Word" "[I").before a s = true := h _ (tin6 (List.mem_of_getElem? (l := tables_1_6) (i := 152) rfl)) rfl a
set_option maxRecDepth 100000 in
theorem q1354 {s : State} {a : Array Value} (h : mT s) : (Jvm.Cond.methodLink "ShareVault$State" (179 : Nat) ({ cls := "ShareVault$Word", name := "ordinal", desc := "()I" } : Jvm.MethodName)).before a s = true := h _ (tin6 (List.mem_of_getElem? (l := tables_1_6) (i := 154) rfl)) rfl a
set_option maxRecDepth 100000 in
theorem q1355 {s : State} {a : Array Value} (h : mT s) : (Jvm.Cond.sameMethod "ShareVault$Word" "java/lang/Enum" "ordinal" "()I").before a s = true := h _ (tin6 (List.mem_of_getElem? (l := tables_1_6) (i := 155) rfl)) rfl a
set_option maxRecDepth 100000 in
theorem q1357 {s : State} {a : Array Value} (h : mT s) : (Jvm.Cond.selects "ShareVault$Word" ({ cls := "ShareVault$Word", name := "ordinal", desc := "()I" } : Jvm.MethodName) ({ cls := "java/lang/Enum", name := "ordinal", desc := "()I" } : Jvm.MethodName)).before a s = true := h _ (tin6 (List.mem_of_getElem? (l := tables_1_6) (i := 157) rfl)) rfl a
set_option maxRecDepth 100000 in
theorem q1358 {s : State} {a : Array Value} (h : mT s) : (Jvm.Cond.instanceMethod ({ cls := "java/lang/Enum", name := "ordinal", desc := "()I" } : Jvm.MethodName)).before a s = true := h _ (tin6 (List.mem_of_getElem? (l := tables_1_6) (i := 158) rfl)) rfl a
set_option maxRecDepth 100000 in
theorem q1360 {s : State} {a : Array Value} (h : mT s) : (Jvm.Cond.methodLink "ShareVault$State" (184 : Nat) ({ cls := "ShareVault$State", name := "tryHolder", desc := "()I" } : Jvm.MethodName)).before a s = true := h _ (tin6 (List.mem_of_getElem? (l := tables_1_6) (i := 160) rfl)) rfl a
set_option maxRecDepth 100000 in
theorem q1361 {s : State} {a : Array Value} (h : mT s) : (Jvm.Cond.methodLink "ShareVault$State" (187 : Nat) ({ cls := "ShareVault$State", name := "trySeal", desc := "(IIII)I" } : Jvm.MethodName)).before a s = true := h _ (tin6 (List.mem_of_getElem? (l := tables_1_6) (i := 161) rfl)) rfl a
set_option maxRecDepth 100000 in
theorem q1362 {s : State} {a : Array Value} (h : mT s) : (Jvm.Cond.methodLink "ShareVault$State" (191 : Nat) ({ cls := "ShareVault$State", name := "tryShare", desc := "(II)I" } : Jvm.MethodName)).before a s = true := h _ (tin6 (List.mem_of_getElem? (l := tables_1_6) (i := 162) rfl)) rfl a
set_option maxRecDepth 100000 in
theorem q1363 {s : State} {a : Array Value} (h : mT s) : (Jvm.Cond.methodLink "ShareVault$State" (194 : Nat) ({ cls := "ShareVault$State", name := "tryPresent", desc := "(I)I" } : Jvm.MethodName)).before a s = true := h _ (tin6 (List.mem_of_getElem? (l := tables_1_6) (i := 163) rfl)) rfl a
set_option maxRecDepth 100000 in
theorem q1364 {s : State} {a : Array Value} (h : mT s) : (Jvm.Cond.methodLink "ShareVault$State" (197 : Nat) ({ cls := "ShareVault$State", name := "tryTakeBack", desc := "(I)I" } : Jvm.MethodName)).before a s = true := h _ (tin6 (List.mem_of_getElem? (l := tables_1_6) (i := 164) rfl)) rfl a
set_option maxRecDepth 100000 in
theorem q1365 {s : State} {a : Array Value} (h : mT s) : (Jvm.Cond.methodLink "ShareVault$State" (200 : Nat) ({ cls := "ShareVault$State", name := "tryOpen", desc := "()I" } : Jvm.MethodName)).before a s = true := h _ (tin6 (List.mem_of_getElem? (l := tables_1_6) (i := 165) rfl)) rfl a
set_option maxRecDepth 100000 in
theorem q1366 {s : State} {a : Array Value} (h : mT s) : (Jvm.Cond.methodLink "ShareVault$State" (203 : Nat) ({ cls := "ShareVault$State", name := "verdictOnOutcome", desc := "(I)I" } : Jvm.MethodName)).before a s = true := h _ (tin6 (List.mem_of_getElem? (l := tables_1_6) (i := 166) rfl)) rfl a
set_option maxRecDepth 100000 in
theorem q1368 {s : State} {a : Array Value} (h : mT s) : (Jvm.Cond.instanceMethod ({ cls := "ShareVault$State", name := "verdictOnOutcome", desc := "(I)I" } : Jvm.MethodName)).before a s = true := h _ (tin6 (List.mem_of_getElem? (l := tables_1_6) (i := 168) rfl)) rfl a
set_option maxRecDepth 100000 in
theorem q1370 {s : State} {a : Array Value} (h : mT s) : (Jvm.Cond.methodLink "ShareVault$State" (206 : Nat) ({ cls := "ShareVault$State", name := "tryClose", desc := "()I" } : Jvm.MethodName)).before a s = true := h _ (tin6 (List.mem_of_getElem? (l := tables_1_6) (i := 170) rfl)) rfl a
set_option maxRecDepth 100000 in
theorem q1371 {s : State} {a : Array Value} (h : mT s) : (Jvm.Cond.methodLink "ShareVault$State" (209 : Nat) ({ cls := "ShareVault$State", name := "tryGuard", desc := "(IZI)I" } : Jvm.MethodName)).before a s = true := h _ (tin6 (List.mem_of_getElem? (l := tables_1_6) (i := 171) rfl)) rfl a
set_option maxRecDepth 100000 in
theorem q1372 {s : State} {a : Array Value} (h : mT s) : (Jvm.Cond.methodLink "ShareVault$State" (212 : Nat) ({ cls := "ShareVault$State", name := "tryTurn", desc := "(I)I" } : Jvm.MethodName)).before a s = true := h _ (tin6 (List.mem_of_getElem? (l := tables_1_6) (i := 172) rfl)) rfl a
set_option maxRecDepth 100000 in
theorem q1373 {s : State} {a : Array Value} (h : mT s) : (Jvm.Cond.methodLink "ShareVault$State" (215 : Nat) ({ cls := "ShareVault$State", name := "tryHum", desc := "(II)I" } : Jvm.MethodName)).before a s = true := h _ (tin6 (List.mem_of_getElem? (l := tables_1_6) (i := 173) rfl)) rfl a
set_option maxRecDepth 100000 in
theorem q1374 {s : State} {a : Array Value} (h : mT s) : (Jvm.Cond.methodLink "ShareVault$State" (218 : Nat) ({ cls := "ShareVault$State", name := "tryHours", desc := "(I)I" } : Jvm.MethodName)).before a s = true := h _ (tin6 (List.mem_of_getElem? (l := tables_1_6) (i := 174) rfl)) rfl a
set_option maxRecDepth 100000 in
theorem q1375 {s : State} {a : Array Value} (h : mT s) : (Jvm.Cond.methodLink "ShareVault" (339 : Nat) ({ cls := "ShareVault$History", name := "prepared", desc := "()LShareVault$State;" } : Jvm.MethodName)).before a s = true := h _ (tin6 (List.mem_of_getElem? (l := tables_1_6) (i := 175) rfl)) rfl a
set_option maxRecDepth 100000 in
theorem q1376 {s : State} {a : Array Value} (h : mT s) : (Jvm.Cond.instanceMethod ({ cls := "ShareVault$History", name := "prepared", desc := "()LShareVault$State;" } : Jvm.MethodName)).before a s = true := h _ (tin6 (List.mem_of_getElem? (l := tables_1_6) (i := 176) rfl)) rfl a
set_option maxRecDepth 100000 in
theorem q1377 {s : State} {a : Array Value} (h : mT s) : (Jvm.Cond.selects "ShareVault$History" ({ cls := "ShareVault$History", name := "prepared", desc := "()LShareVault$State;" } : Jvm.MethodName) ({ cls := "ShareVault$History", name := "prepared", desc := "()LShareVault$State;" } : Jvm.MethodName)).before a s = true := h _ (tin6 (List.mem_of_getElem? (l := tables_1_6) (i := 177) rfl)) rfl a
set_option maxRecDepth 100000 in
theorem q1404 {s : State} {a : Array Value} (h : mT s) : (Jvm.Cond.methodLink "ShareVault" (385 : Nat) ({ cls := "ShareVault$History", name := "takeLatest", desc := "()LShareVault$State;" } : Jvm.MethodName)).before a s = true := h _ (tin6 (List.mem_of_getElem? (l := tables_1_6) (i := 204) rfl)) rfl a
set_option maxRecDepth 100000 in
theorem q1405 {s : State} {a : Array Value} (h : mT s) : (Jvm.Cond.instanceMethod ({ cls := "ShareVault$History", name := "takeLatest", desc := "()LShareVault$State;" } : Jvm.MethodName)).before a s = true := h _ (tin6 (List.mem_of_getElem? (l := tables_1_6) (i := 205) rfl)) rfl a
set_option maxRecDepth 100000 in
theorem q1406 {s : State} {a : Array Value} (h : mT s) : (Jvm.Cond.selects "ShareVault$History" ({ cls := "ShareVault$History", name := "takeLatest", desc := "()LShareVault$State;" } : Jvm.MethodName) ({ cls := "ShareVault$History", name := "takeLatest", desc := "()LShareVault$State;" } : Jvm.MethodName)).before a s = true := h _ (tin6 (List.mem_of_getElem? (l := tables_1_6) (i := 206) rfl)) rfl a
set_option maxRecDepth 100000 in
theorem q1416 {s : State} {a : Array Value} (h : mT s) : (Jvm.Cond.methodLink "ShareVault" (393 : Nat) ({ cls := "ShareVault$History", name := "clear", desc := "()V" } : Jvm.MethodName)).before a s = true := h _ (tin6 (List.mem_of_getElem? (l := tables_1_6) (i := 216) rfl)) rfl a
set_option maxRecDepth 100000 in
theorem q1417 {s : State} {a : Array Value} (h : mT s) : (Jvm.Cond.instanceMethod ({ cls := "ShareVault$History", name := "clear", desc := "()V" } : Jvm.MethodName)).before a s = true := h _ (tin6 (List.mem_of_getElem? (l := tables_1_6) (i := 217) rfl)) rfl a
set_option maxRecDepth 100000 in
theorem q1418 {s : State} {a : Array Value} (h : mT s) : (Jvm.Cond.selects "ShareVault$History" ({ cls := "ShareVault$History", name := "clear", desc := "()V" } : Jvm.MethodName) ({ cls := "ShareVault$History", name := "clear", desc := "()V" } : Jvm.MethodName)).before a s = true := h _ (tin6 (List.mem_of_getElem? (l := tables_1_6) (i := 218) rfl)) rfl a
set_option maxRecDepth 100000 in
theorem q1426 {s : State} {a : Array Value} (h : mT s) : (Jvm.Cond.fieldLink "ShareVaultModel" (41 : Nat) "ShareVaultModel" "thrown" "I").before a s = true := h _ (tin6 (List.mem_of_getElem? (l := tables_1_6) (i := 226) rfl)) rfl a
set_option maxRecDepth 100000 in
theorem q1427 {s : State} {a : Array Value} (h : mT s) : (Jvm.Cond.fieldLink "ShareVaultModel" (7 : Nat) "ShareVaultModel" "s" "[I").before a s = true := h _ (tin6 (List.mem_of_getElem? (l := tables_1_6) (i := 227) rfl)) rfl a
set_option maxRecDepth 100000 in
theorem q1428 {s : State} {a : Array Value} (h : mT s) : (Jvm.Cond.fieldLink "ShareVaultModel" (13 : Nat) "ShareVaultModel" "frame" "[I").before a s = true := h _ (tin6 (List.mem_of_getElem? (l := tables_1_6) (i := 228) rfl)) rfl a
set_option maxRecDepth 100000 in
theorem q1429 {s : State} {a : Array Value} (h : mT s) : (Jvm.Cond.fieldLink "ShareVaultModel" (16 : Nat) "ShareVaultModel" "saved" "[I").before a s = true := h _ (tin6 (List.mem_of_getElem? (l := tables_1_6) (i := 229) rfl)) rfl a
set_option maxRecDepth 100000 in
theorem q1430 {s : State} {a : Array Value} (h : mT s) : (Jvm.Cond.fieldLink "ShareVaultModel" (19 : Nat) "ShareVaultModel" "history" "[I").before a s = true := h _ (tin6 (List.mem_of_getElem? (l := tables_1_6) (i := 230) rfl)) rfl a
set_option maxRecDepth 100000 in
theorem q1431 {s : State} {a : Array Value} (h : mT s) : (Jvm.Cond.fieldLink "ShareVaultModel" (22 : Nat) "ShareVaultModel" "thought" "[I").before a s = true := h _ (tin6 (List.mem_of_getElem? (l := tables_1_6) (i := 231) rfl)) rfl a
set_option maxRecDepth 100000 in
theorem q1432 {s : State} {a : Array Value} (h : mT s) : (Jvm.Cond.fieldLink "ShareVaultModel" (44 : Nat) "ShareVaultModel" "kept" "I").before a s = true := h _ (tin6 (List.mem_of_getElem? (l := tables_1_6) (i := 232) rfl)) rfl a
set_option maxRecDepth 100000 in
theorem q1433 {s : State} {a : Array Value} (h : mT s) : (Jvm.Cond.fieldLink "ShareVaultModel" (293 : Nat) "ShareVaultModel" "hasSaved" "Z").before a s = true := h _ (tin6 (List.mem_of_getElem? (l := tables_1_6) (i := 233) rfl)) rfl a
set_option maxRecDepth 100000 in
theorem q1434 {s : State} {a : Array Value} (h : mT s) : (Jvm.Cond.fieldLink "ShareVaultModel" (25 : Nat) "ShareVaultModel" "text" "[I").before a s = true := h _ (tin6 (List.mem_of_getElem? (l := tables_1_6) (i := 234) rfl)) rfl a
set_option maxRecDepth 100000 in
theorem q1435 {s : State} {a : Array Value} (h : mT s) : (Jvm.Cond.fieldLink "ShareVaultModel" (28 : Nat) "ShareVaultModel" "told" "[I").before a s = true := h _ (tin6 (List.mem_of_getElem? (l := tables_1_6) (i := 235) rfl)) rfl a
set_option maxRecDepth 100000 in
theorem q1436 {s : State} {a : Array Value} (h : mT s) : (Jvm.Cond.fieldLink "ShareVaultModel" (31 : Nat) "ShareVaultModel" "out" "[I").before a s = true := h _ (tin6 (List.mem_of_getElem? (l := tables_1_6) (i := 236) rfl)) rfl a
set_option maxRecDepth 100000 in
theorem q1437 {s : State} {a : Array Value} (h : mT s) : (Jvm.Cond.fieldLink "ShareVaultModel" (34 : Nat) "ShareVaultModel" "points" "[I").before a s = true := h _ (tin6 (List.mem_of_getElem? (l := tables_1_6) (i := 237) rfl)) rfl a
set_option maxRecDepth 100000 in
theorem q1438 {s : State} {a : Array Value} (h : mT s) : (Jvm.Cond.fieldLink "ShareVaultModel" (203 : Nat) "ShareVaultModel" "fed" "I").before a s = true := h _ (tin6 (List.mem_of_getElem? (l := tables_1_6) (i := 238) rfl)) rfl a
set_option maxRecDepth 100000 in
theorem q1439 {s : State} {a : Array Value} (h : mT s) : (Jvm.Cond.fieldLink "ShareVaultModel" (283 : Nat) "ShareVaultModel" "outLength" "I").before a s = true := h _ (tin6 (List.mem_of_getElem? (l := tables_1_6) (i := 239) rfl)) rfl a
set_option maxRecDepth 100000 in
theorem q1440 {s : State} {a : Array Value} (h : mT s) : (Jvm.Cond.fieldLink "ShareVaultModel" (37 : Nat) "ShareVaultModel" "faultAt" "I").before a s = true := h _ (tin7 (List.mem_of_getElem? (l := tables_1_7) (i := 0) rfl)) rfl a
set_option maxRecDepth 100000 in
theorem q1441 {s : State} {a : Array Value} (h : mT s) : (Jvm.Cond.fieldLink "ShareVaultModel" (47 : Nat) "ShareVaultModel" "answer" "I").before a s = true := h _ (tin7 (List.mem_of_getElem? (l := tables_1_7) (i := 1) rfl)) rfl a
set_option maxRecDepth 100000 in
theorem q1442 {s : State} {a : Array Value} (h : mT s) : (Jvm.Cond.fieldLink "ShareVaultModel" (50 : Nat) "ShareVaultModel" "why" "I").before a s = true := h _ (tin7 (List.mem_of_getElem? (l := tables_1_7) (i := 2) rfl)) rfl a
set_option maxRecDepth 100000 in
theorem q1443 {s : State} {a : Array Value} (h : mT s) : (Jvm.Cond.fieldLink "ShareVaultModel" (53 : Nat) "ShareVaultModel" "detail" "I").before a s = true := h _ (tin7 (List.mem_of_getElem? (l := tables_1_7) (i := 3) rfl)) rfl a
set_option maxRecDepth 100000 in
theorem q1444 {s : State} {a : Array Value} (h : mT s) : (Jvm.Cond.fieldLink "ShareVaultModel" (56 : Nat) "ShareVaultModel" "cause" "I").before a s = true := h _ (tin7 (List.mem_of_getElem? (l := tables_1_7) (i := 4) rfl)) rfl a
set_option maxRecDepth 100000 in
theorem q1445 {s : State} {a : Array Value} (h : mT s) : (Jvm.Cond.fieldLink "ShareVaultModel" (206 : Nat) "ShareVaultModel" "spot" "I").before a s = true := h _ (tin7 (List.mem_of_getElem? (l := tables_1_7) (i := 5) rfl)) rfl a
set_option maxRecDepth 100000 in
theorem q1446 {s : State} {a : Array Value} (h : mT s) : (Jvm.Cond.fieldLink "ShareVaultModel" (209 : Nat) "ShareVaultModel" "end" "I").before a s = true := h _ (tin7 (List.mem_of_getElem? (l := tables_1_7) (i := 6) rfl)) rfl a
set_option maxRecDepth 100000 in
theorem q1447 {s : State} {a : Array Value} (h : mT s) : (Jvm.Cond.fieldLink "ShareVaultModel" (232 : Nat) "ShareVaultModel" "commands" "I").before a s = true := h _ (tin7 (List.mem_of_getElem? (l := tables_1_7) (i := 7) rfl)) rfl a
set_option maxRecDepth 100000 in
theorem q1448 {s : State} {a : Array Value} (h : mT s) : (Jvm.Cond.fieldLink "ShareVaultModel" (217 : Nat) "ShareVaultModel" "isWrong" "Z").before a s = true := h _ (tin7 (List.mem_of_getElem? (l := tables_1_7) (i := 8) rfl)) rfl a
set_option maxRecDepth 100000 in
theorem q1504 {s : State} {a : Array Value} (h : mT s) : (Jvm.Cond.methodLink "ShareVaultModel" (128 : Nat) ({ cls := "ShareVaultModel", name := "remembers", desc := "()V" } : Jvm.MethodName)).before a s = true := h _ (tin7 (List.mem_of_getElem? (l := tables_1_7) (i := 64) rfl)) rfl a
set_option maxRecDepth 100000 in
theorem q1506 {s : State} {a : Array Value} (h : mT s) : (Jvm.Cond.instanceMethod ({ cls := "ShareVaultModel", name := "remembers", desc := "()V" } : Jvm.MethodName)).before a s = true := h _ (tin7 (List.mem_of_getElem? (l := tables_1_7) (i := 66) rfl)) rfl a
set_option maxRecDepth 100000 in
theorem q1508 {s : State} {a : Array Value} (h : mT s) : (Jvm.Cond.methodLink "ShareVaultModel" (131 : Nat) ({ cls := "ShareVaultModel", name := "adds", desc := "()I" } : Jvm.MethodName)).before a s = true := h _ (tin7 (List.mem_of_getElem? (l := tables_1_7) (i := 68) rfl)) rfl a
set_option maxRecDepth 100000 in
theorem q1510 {s : State} {a : Array Value} (h : mT s) : (Jvm.Cond.instanceMethod ({ cls := "ShareVaultModel", name := "adds", desc := "()I" } : Jvm.MethodName)).before a s = true := h _ (tin7 (List.mem_of_getElem? (l := tables_1_7) (i := 70) rfl)) rfl a
set_option maxRecDepth 100000 in
theorem q1512 {s : State} {a : Array Value} (h : mT s) : (Jvm.Cond.methodLink "ShareVaultModel" (98 : Nat) ({ cls := "ShareVaultModel", name := "refused", desc := "(II)I" } : Jvm.MethodName)).before a s = true := h _ (tin7 (List.mem_of_getElem? (l := tables_1_7) (i := 72) rfl)) rfl a
set_option maxRecDepth 100000 in
theorem q1514 {s : State} {a : Array Value} (h : mT s) : (Jvm.Cond.instanceMethod ({ cls := "ShareVaultModel", name := "refused", desc := "(II)I" } : Jvm.MethodName)).before a s = true := h _ (tin7 (List.mem_of_getElem? (l := tables_1_7) (i := 74) rfl)) rfl a
set_option maxRecDepth 100000 in
theorem q1516 {s : State} {a : Array Value} (h : mT s) : (Jvm.Cond.methodLink "ShareVaultModel" (101 : Nat) ({ cls := "ShareVaultModel", name := "curve", desc := "(I)I" } : Jvm.MethodName)).before a s = true := h _ (tin7 (List.mem_of_getElem? (l := tables_1_7) (i := 76) rfl)) rfl a
set_option maxRecDepth 100000 in
theorem q1518 {s : State} {a : Array Value} (h : mT s) : (Jvm.Cond.instanceMethod ({ cls := "ShareVaultModel", name := "curve", desc := "(I)I" } : Jvm.MethodName)).before a s = true := h _ (tin7 (List.mem_of_getElem? (l := tables_1_7) (i := 78) rfl)) rfl a
set_option maxRecDepth 100000 in
theorem q1520 {s : State} {a : Array Value} (h : mT s) : (Jvm.Cond.methodLink "ShareVaultModel" (104 : Nat) ({ cls := "ShareVaultModel", name := "done", desc := "(I)I" } : Jvm.MethodName)).before a s = true := h _ (tin7 (List.mem_of_getElem? (l := tables_1_7) (i := 80) rfl)) rfl a
set_option maxRecDepth 100000 in
theorem q1522 {s : State} {a : Array Value} (h : mT s) : (Jvm.Cond.instanceMethod ({ cls := "ShareVaultModel", name := "done", desc := "(I)I" } : Jvm.MethodName)).before a s = true := h _ (tin7 (List.mem_of_getElem? (l := tables_1_7) (i := 82) rfl)) rfl a
set_option maxRecDepth 100000 in
theorem q1524 {s : State} {a : Array Value} (h : mT s) : (Jvm.Cond.methodLink "ShareVaultModel" (134 : Nat) ({ cls := "ShareVaultModel", name := "ends", desc := "(II)I" } : Jvm.MethodName)).before a s = true := h _ (tin7 (List.mem_of_getElem? (l := tables_1_7) (i := 84) rfl)) rfl a
set_option maxRecDepth 100000 in
theorem q1526 {s : State} {a : Array Value} (h : mT s) : (Jvm.Cond.instanceMethod ({ cls := "ShareVaultModel", name := "ends", desc := "(II)I" } : Jvm.MethodName)).before a s = true := h _ (tin7 (List.mem_of_getElem? (l := tables_1_7) (i := 86) rfl)) rfl a
set_option maxRecDepth 100000 in
theorem q1528 {s : State} {a : Array Value} (h : mT s) : (Jvm.Cond.methodLink "ShareVaultModel" (59 : Nat) ({ cls := "ShareVaultModel", name := "changed", desc := "(I)I" } : Jvm.MethodName)).before a s = true := h _ (tin7 (List.mem_of_getElem? (l := tables_1_7) (i := 88) rfl)) rfl a
set_option maxRecDepth 100000 in
theorem q1530 {s : State} {a : Array Value} (h : mT s) : (Jvm.Cond.instanceMethod ({ cls := "ShareVaultModel", name := "changed", desc := "(I)I" } : Jvm.MethodName)).before a s = true := h _ (tin7 (List.mem_of_getElem? (l := tables_1_7) (i := 90) rfl)) rfl a
set_option maxRecDepth 100000 in
theorem q1532 {s : State} {a : Array Value} (h : mT s) : (Jvm.Cond.methodLink "ShareVaultModel" (63 : Nat) ({ cls := "ShareVaultModel", name := "fails", desc := "(I)I" } : Jvm.MethodName)).before a s = true := h _ (tin7 (List.mem_of_getElem? (l := tables_1_7) (i := 92) rfl)) rfl a
set_option maxRecDepth 100000 in
theorem q1534 {s : State} {a : Array Value} (h : mT s) : (Jvm.Cond.instanceMethod ({ cls := "ShareVaultModel", name := "fails", desc := "(I)I" } : Jvm.MethodName)).before a s = true := h _ (tin7 (List.mem_of_getElem? (l := tables_1_7) (i := 94) rfl)) rfl a
set_option maxRecDepth 100000 in
theorem q1540 {s : State} {a : Array Value} (h : mT s) : (Jvm.Cond.methodLink "ShareVaultModel" (137 : Nat) ({ cls := "ShareVaultModel", name := "seals", desc := "(IIII)I" } : Jvm.MethodName)).before a s = true := h _ (tin7 (List.mem_of_getElem? (l := tables_1_7) (i := 100) rfl)) rfl a
set_option maxRecDepth 100000 in
theorem q1542 {s : State} {a : Array Value} (h : mT s) : (Jvm.Cond.instanceMethod ({ cls := "ShareVaultModel", name := "seals", desc := "(IIII)I" } : Jvm.MethodName)).before a s = true := h _ (tin7 (List.mem_of_getElem? (l := tables_1_7) (i := 102) rfl)) rfl a
set_option maxRecDepth 100000 in
theorem q1544 {s : State} {a : Array Value} (h : mT s) : (Jvm.Cond.methodLink "ShareVaultModel" (66 : Nat) ({ cls := "ShareVaultModel", name := "in", desc := "(III)Z" } : Jvm.MethodName)).before a s = true := h _ (tin7 (List.mem_of_getElem? (l := tables_1_7) (i := 104) rfl)) rfl a
set_option maxRecDepth 100000 in
theorem q1545 {s : State} {a : Array Value} (h : mT s) : (Jvm.Cond.static ({ cls := "ShareVaultModel", name := "in", desc := "(III)Z" } : Jvm.MethodName)).before a s = true := h _ (tin7 (List.mem_of_getElem? (l := tables_1_7) (i := 105) rfl)) rfl a
set_option maxRecDepth 100000 in
theorem q1547 {s : State} {a : Array Value} (h : mT s) : (Jvm.Cond.methodLink "ShareVaultModel" (107 : Nat) ({ cls := "ShareVaultModel", name := "clears", desc := "()V" } : Jvm.MethodName)).before a s = true := h _ (tin7 (List.mem_of_getElem? (l := tables_1_7) (i := 107) rfl)) rfl a
set_option maxRecDepth 100000 in
theorem q1549 {s : State} {a : Array Value} (h : mT s) : (Jvm.Cond.instanceMethod ({ cls := "ShareVaultModel", name := "clears", desc := "()V" } : Jvm.MethodName)).before a s = true := h _ (tin7 (List.mem_of_getElem? (l := tables_1_7) (i := 109) rfl)) rfl a
set_option maxRecDepth 100000 in
theorem q1555 {s : State} {a : Array Value} (h : mT s) : (Jvm.Cond.methodLink "ShareVaultModel" (141 : Nat) ({ cls := "ShareVaultModel", name := "shares", desc := "(II)I" } : Jvm.MethodName)).before a s = true := h _ (tin7 (List.mem_of_getElem? (l := tables_1_7) (i := 115) rfl)) rfl a
set_option maxRecDepth 100000 in
theorem q1557 {s : State} {a : Array Value} (h : mT s) : (Jvm.Cond.instanceMethod ({ cls := "ShareVaultModel", name := "shares", desc := "(II)I" } : Jvm.MethodName)).before a s = true := h _ (tin7 (List.mem_of_getElem? (l := tables_1_7) (i := 117) rfl)) rfl a
set_option maxRecDepth 100000 in
theorem q1559 {s : State} {a : Array Value} (h : mT s) : (Jvm.Cond.methodLink "ShareVaultModel" (110 : Nat) ({ cls := "ShareVaultModel", name := "isHolder", desc := "(I)Z" } : Jvm.MethodName)).before a s = true := h _ (tin7 (List.mem_of_getElem? (l := tables_1_7) (i := 119) rfl)) rfl a
set_option maxRecDepth 100000 in
theorem q1561 {s : State} {a : Array Value} (h : mT s) : (Jvm.Cond.instanceMethod ({ cls := "ShareVaultModel", name := "isHolder", desc := "(I)Z" } : Jvm.MethodName)).before a s = true := h _ (tin7 (List.mem_of_getElem? (l := tables_1_7) (i := 121) rfl)) rfl a
set_option maxRecDepth 100000 in
theorem q1567 {s : State} {a : Array Value} (h : mT s) : (Jvm.Cond.methodLink "ShareVaultModel" (144 : Nat) ({ cls := "ShareVaultModel", name := "presents", desc := "(I)I" } : Jvm.MethodName)).before a s = true := h _ (tin7 (List.mem_of_getElem? (l := tables_1_7) (i := 127) rfl)) rfl a
set_option maxRecDepth 100000 in
theorem q1569 {s : State} {a : Array Value} (h : mT s) : (Jvm.Cond.instanceMethod ({ cls := "ShareVaultModel", name := "presents", desc := "(I)I" } : Jvm.MethodName)).before a s = true := h _ (tin7 (List.mem_of_getElem? (l := tables_1_7) (i := 129) rfl)) rfl a
set_option maxRecDepth 100000 in
theorem q1571 {s : State} {a : Array Value} (h : mT s) : (Jvm.Cond.methodLink "ShareVaultModel" (113 : Nat) ({ cls := "ShareVaultModel", name := "placeOf", desc := "(I)I" } : Jvm.MethodName)).before a s = true := h _ (tin7 (List.mem_of_getElem? (l := tables_1_7) (i := 131) rfl)) rfl a
set_option maxRecDepth 100000 in
theorem q1573 {s : State} {a : Array Value} (h : mT s) : (Jvm.Cond.instanceMethod ({ cls := "ShareVaultModel", name := "placeOf", desc := "(I)I" } : Jvm.MethodName)).before a s = true := h _ (tin7 (List.mem_of_getElem? (l := tables_1_7) (i := 133) rfl)) rfl a
set_option maxRecDepth 100000 in
theorem q1579 {s : State} {a : Array Value} (h : mT s) : (Jvm.Cond.methodLink "ShareVaultModel" (147 : Nat) ({ cls := "ShareVaultModel", name := "takes", desc := "(I)I" } : Jvm.MethodName)).before a s = true := h _ (tin7 (List.mem_of_getElem? (l := tables_1_7) (i := 139) rfl)) rfl a
set_option maxRecDepth 100000 in
theorem q1581 {s : State} {a : Array Value} (h : mT s) : (Jvm.Cond.instanceMethod ({ cls := "ShareVaultModel", name := "takes", desc := "(I)I" } : Jvm.MethodName)).before a s = true := h _ (tin7 (List.mem_of_getElem? (l := tables_1_7) (i := 141) rfl)) rfl a
set_option maxRecDepth 100000 in
theorem q1587 {s : State} {a : Array Value} (h : mT s) : (Jvm.Cond.methodLink "ShareVaultModel" (150 : Nat) ({ cls := "ShareVaultModel", name := "tries", desc := "()I" } : Jvm.MethodName)).before a s = true := h _ (tin7 (List.mem_of_getElem? (l := tables_1_7) (i := 147) rfl)) rfl a
set_option maxRecDepth 100000 in
theorem q1589 {s : State} {a : Array Value} (h : mT s) : (Jvm.Cond.instanceMethod ({ cls := "ShareVaultModel", name := "tries", desc := "()I" } : Jvm.MethodName)).before a s = true := h _ (tin7 (List.mem_of_getElem? (l := tables_1_7) (i := 149) rfl)) rfl a
set_option maxRecDepth 100000 in
theorem q1591 {s : State} {a : Array Value} (h : mT s) : (Jvm.Cond.methodLink "ShareVaultModel" (87 : Nat) ({ cls := "ShareVaultModel", name := "isIn", desc := "(I)Z" } : Jvm.MethodName)).before a s = true := h _ (tin7 (List.mem_of_getElem? (l := tables_1_7) (i := 151) rfl)) rfl a
set_option maxRecDepth 100000 in
theorem q1593 {s : State} {a : Array Value} (h : mT s) : (Jvm.Cond.instanceMethod ({ cls := "ShareVaultModel", name := "isIn", desc := "(I)Z" } : Jvm.MethodName)).before a s = true := h _ (tin7 (List.mem_of_getElem? (l := tables_1_7) (i := 153) rfl)) rfl a
set_option maxRecDepth 100000 in
theorem q1595 {s : State} {a : Array Value} (h : mT s) : (Jvm.Cond.methodLink "ShareVaultModel" (84 : Nat) ({ cls := "ShareVaultModel", name := "guard", desc := "(II)I" } : Jvm.MethodName)).before a s = true := h _ (tin7 (List.mem_of_getElem? (l := tables_1_7) (i := 155) rfl)) rfl a
set_option maxRecDepth 100000 in
theorem q1597 {s : State} {a : Array Value} (h : mT s) : (Jvm.Cond.instanceMethod ({ cls := "ShareVaultModel", name := "guard", desc := "(II)I" } : Jvm.MethodName)).before a s = true := h _ (tin7 (List.mem_of_getElem? (l := tables_1_7) (i := 157) rfl)) rfl a
set_option maxRecDepth 100000 in
theorem q1599 {s : State} {a : Array Value} (h : mT s) : (Jvm.Cond.methodLink "ShareVaultModel" (116 : Nat) ({ cls := "ShareVaultModel", name := "takesFirst", desc := "()V" } : Jvm.MethodName)).before a s = true := h _ (tin7 (List.mem_of_getElem? (l := tables_1_7) (i := 159) rfl)) rfl a
set_option maxRecDepth 100000 in
theorem q1601 {s : State} {a : Array Value} (h : mT s) : (Jvm.Cond.instanceMethod ({ cls := "ShareVaultModel", name := "takesFirst", desc := "()V" } : Jvm.MethodName)).before a s = true := h _ (tin7 (List.mem_of_getElem? (l := tables_1_7) (i := 161) rfl)) rfl a
set_option maxRecDepth 100000 in
theorem q1603 {s : State} {a : Array Value} (h : mT s) : (Jvm.Cond.methodLink "ShareVaultModel" (76 : Nat) ({ cls := "ShareVaultModel", name := "onIt", desc := "()I" } : Jvm.MethodName)).before a s = true := h _ (tin7 (List.mem_of_getElem? (l := tables_1_7) (i := 163) rfl)) rfl a
set_option maxRecDepth 100000 in
theorem q1605 {s : State} {a : Array Value} (h : mT s) : (Jvm.Cond.instanceMethod ({ cls := "ShareVaultModel", name := "onIt", desc := "()I" } : Jvm.MethodName)).before a s = true := h _ (tin7 (List.mem_of_getElem? (l := tables_1_7) (i := 165) rfl)) rfl a
set_option maxRecDepth 100000 in
theorem q1607 {s : State} {a : Array Value} (h : mT s) : (Jvm.Cond.methodLink "ShareVaultModel" (73 : Nat) ({ cls := "ShareVaultModel", name := "through", desc := "(I)I" } : Jvm.MethodName)).before a s = true := h _ (tin7 (List.mem_of_getElem? (l := tables_1_7) (i := 167) rfl)) rfl a
set_option maxRecDepth 100000 in
theorem q1609 {s : State} {a : Array Value} (h : mT s) : (Jvm.Cond.instanceMethod ({ cls := "ShareVaultModel", name := "through", desc := "(I)I" } : Jvm.MethodName)).before a s = true := h _ (tin7 (List.mem_of_getElem? (l := tables_1_7) (i := 169) rfl)) rfl a
set_option maxRecDepth 100000 in
theorem q1611 {s : State} {a : Array Value} (h : mT s) : (Jvm.Cond.methodLink "ShareVaultModel" (70 : Nat) ({ cls := "ShareVaultModel", name := "inverse", desc := "(I)I" } : Jvm.MethodName)).before a s = true := h _ (tin7 (List.mem_of_getElem? (l := tables_1_7) (i := 171) rfl)) rfl a
set_option maxRecDepth 100000 in
theorem q1612 {s : State} {a : Array Value} (h : mT s) : (Jvm.Cond.static ({ cls := "ShareVaultModel", name := "inverse", desc := "(I)I" } : Jvm.MethodName)).before a s = true := h _ (tin7 (List.mem_of_getElem? (l := tables_1_7) (i := 172) rfl)) rfl a
set_option maxRecDepth 100000 in
theorem q1614 {s : State} {a : Array Value} (h : mT s) : (Jvm.Cond.methodLink "ShareVaultModel" (94 : Nat) ({ cls := "ShareVaultModel", name := "logs", desc := "(II)V" } : Jvm.MethodName)).before a s = true := h _ (tin7 (List.mem_of_getElem? (l := tables_1_7) (i := 174) rfl)) rfl a
set_option maxRecDepth 100000 in
theorem q1616 {s : State} {a : Array Value} (h : mT s) : (Jvm.Cond.instanceMethod ({ cls := "ShareVaultModel", name := "logs", desc := "(II)V" } : Jvm.MethodName)).before a s = true := h _ (tin7 (List.mem_of_getElem? (l := tables_1_7) (i := 176) rfl)) rfl a
set_option maxRecDepth 100000 in
theorem q1622 {s : State} {a : Array Value} (h : mT s) : (Jvm.Cond.methodLink "ShareVaultModel" (153 : Nat) ({ cls := "ShareVaultModel", name := "closes", desc := "()I" } : Jvm.MethodName)).before a s = true := h _ (tin7 (List.mem_of_getElem? (l := tables_1_7) (i := 182) rfl)) rfl a
set_option maxRecDepth 100000 in
theorem q1624 {s : State} {a : Array Value} (h : mT s) : (Jvm.Cond.instanceMethod ({ cls := "ShareVaultModel", name := "closes", desc := "()I" } : Jvm.MethodName)).before a s = true := h _ (tin7 (List.mem_of_getElem? (l := tables_1_7) (i := 184) rfl)) rfl a
set_option maxRecDepth 100000 in
theorem q1630 {s : State} {a : Array Value} (h : mT s) : (Jvm.Cond.methodLink "ShareVaultModel" (156 : Nat) ({ cls := "ShareVaultModel", name := "guards", desc := "(IZI)I" } : Jvm.MethodName)).before a s = true := h _ (tin7 (List.mem_of_getElem? (l := tables_1_7) (i := 190) rfl)) rfl a
set_option maxRecDepth 100000 in
theorem q1632 {s : State} {a : Array Value} (h : mT s) : (Jvm.Cond.instanceMethod ({ cls := "ShareVaultModel", name := "guards", desc := "(IZI)I" } : Jvm.MethodName)).before a s = true := h _ (tin7 (List.mem_of_getElem? (l := tables_1_7) (i := 192) rfl)) rfl a
set_option maxRecDepth 100000 in
theorem q1634 {s : State} {a : Array Value} (h : mT s) : (Jvm.Cond.methodLink "ShareVaultModel" (119 : Nat) ({ cls := "ShareVaultModel", name := "isZone", desc := "(I)Z" } : Jvm.MethodName)).before a s = true := h _ (tin7 (List.mem_of_getElem? (l := tables_1_7) (i := 194) rfl)) rfl a
set_option maxRecDepth 100000 in
theorem q1635 {s : State} {a : Array Value} (h : mT s) : (Jvm.Cond.static ({ cls := "ShareVaultModel", name := "isZone", desc := "(I)Z" } : Jvm.MethodName)).before a s = true := h _ (tin7 (List.mem_of_getElem? (l := tables_1_7) (i := 195) rfl)) rfl a
set_option maxRecDepth 100000 in
theorem q1641 {s : State} {a : Array Value} (h : mT s) : (Jvm.Cond.methodLink "ShareVaultModel" (160 : Nat) ({ cls := "ShareVaultModel", name := "turns", desc := "(I)I" } : Jvm.MethodName)).before a s = true := h _ (tin7 (List.mem_of_getElem? (l := tables_1_7) (i := 201) rfl)) rfl a
set_option maxRecDepth 100000 in
theorem q1643 {s : State} {a : Array Value} (h : mT s) : (Jvm.Cond.instanceMethod ({ cls := "ShareVaultModel", name := "turns", desc := "(I)I" } : Jvm.MethodName)).before a s = true := h _ (tin7 (List.mem_of_getElem? (l := tables_1_7) (i := 203) rfl)) rfl a
set_option maxRecDepth 100000 in
theorem q1645 {s : State} {a : Array Value} (h : mT s) : (Jvm.Cond.methodLink "ShareVaultModel" (122 : Nat) ({ cls := "ShareVaultModel", name := "isGuard", desc := "(I)Z" } : Jvm.MethodName)).before a s = true := h _ (tin7 (List.mem_of_getElem? (l := tables_1_7) (i := 205) rfl)) rfl a
set_option maxRecDepth 100000 in
theorem q1647 {s : State} {a : Array Value} (h : mT s) : (Jvm.Cond.instanceMethod ({ cls := "ShareVaultModel", name := "isGuard", desc := "(I)Z" } : Jvm.MethodName)).before a s = true := h _ (tin7 (List.mem_of_getElem? (l := tables_1_7) (i := 207) rfl)) rfl a
set_option maxRecDepth 100000 in
theorem q1653 {s : State} {a : Array Value} (h : mT s) : (Jvm.Cond.methodLink "ShareVaultModel" (163 : Nat) ({ cls := "ShareVaultModel", name := "hums", desc := "(II)I" } : Jvm.MethodName)).before a s = true := h _ (tin7 (List.mem_of_getElem? (l := tables_1_7) (i := 213) rfl)) rfl a
set_option maxRecDepth 100000 in
theorem q1655 {s : State} {a : Array Value} (h : mT s) : (Jvm.Cond.instanceMethod ({ cls := "ShareVaultModel", name := "hums", desc := "(II)I" } : Jvm.MethodName)).before a s = true := h _ (tin7 (List.mem_of_getElem? (l := tables_1_7) (i := 215) rfl)) rfl a
set_option maxRecDepth 100000 in
theorem q1661 {s : State} {a : Array Value} (h : mT s) : (Jvm.Cond.methodLink "ShareVaultModel" (166 : Nat) ({ cls := "ShareVaultModel", name := "passes", desc := "(I)I" } : Jvm.MethodName)).before a s = true := h _ (tin7 (List.mem_of_getElem? (l := tables_1_7) (i := 221) rfl)) rfl a
set_option maxRecDepth 100000 in
theorem q1663 {s : State} {a : Array Value} (h : mT s) : (Jvm.Cond.instanceMethod ({ cls := "ShareVaultModel", name := "passes", desc := "(I)I" } : Jvm.MethodName)).before a s = true := h _ (tin7 (List.mem_of_getElem? (l := tables_1_7) (i := 223) rfl)) rfl a
set_option maxRecDepth 100000 in
theorem q1665 {s : State} {a : Array Value} (h : mT s) : (Jvm.Cond.methodLink "ShareVaultModel" (125 : Nat) ({ cls := "ShareVaultModel", name := "oneHour", desc := "()I" } : Jvm.MethodName)).before a s = true := h _ (tin7 (List.mem_of_getElem? (l := tables_1_7) (i := 225) rfl)) rfl a
set_option maxRecDepth 100000 in
theorem q1667 {s : State} {a : Array Value} (h : mT s) : (Jvm.Cond.instanceMethod ({ cls := "ShareVaultModel", name := "oneHour", desc := "()I" } : Jvm.MethodName)).before a s = true := h _ (tin7 (List.mem_of_getElem? (l := tables_1_7) (i := 227) rfl)) rfl a
set_option maxRecDepth 100000 in
theorem q1669 {s : State} {a : Array Value} (h : mT s) : (Jvm.Cond.methodLink "ShareVaultModel" (91 : Nat) ({ cls := "ShareVaultModel", name := "isNear", desc := "(I)Z" } : Jvm.MethodName)).before a s = true := h _ (tin7 (List.mem_of_getElem? (l := tables_1_7) (i := 229) rfl)) rfl a
set_option maxRecDepth 100000 in
theorem q1671 {s : State} {a : Array Value} (h : mT s) : (Jvm.Cond.instanceMethod ({ cls := "ShareVaultModel", name := "isNear", desc := "(I)Z" } : Jvm.MethodName)).before a s = true := h _ (tin7 (List.mem_of_getElem? (l := tables_1_7) (i := 231) rfl)) rfl a
set_option maxRecDepth 100000 in
theorem q1693 {s : State} {a : Array Value} (h : mT s) : (Jvm.Cond.methodLink "ShareVaultModel" (169 : Nat) ({ cls := "ShareVaultModel", name := "isShare", desc := "(I)Z" } : Jvm.MethodName)).before a s = true := h _ (tin8 (List.mem_of_getElem? (l := tables_1_8) (i := 13) rfl)) rfl a
set_option maxRecDepth 100000 in
theorem q1695 {s : State} {a : Array Value} (h : mT s) : (Jvm.Cond.instanceMethod ({ cls := "ShareVaultModel", name := "isShare", desc := "(I)Z" } : Jvm.MethodName)).before a s = true := h _ (tin8 (List.mem_of_getElem? (l := tables_1_8) (i := 15) rfl)) rfl a
set_option maxRecDepth 100000 in
theorem q1714 {s : State} {a : Array Value} (h : mT s) : (Jvm.Cond.instanceMethod ({ cls := "ShareVaultModel", name := "toldSecret", desc := "()I" } : Jvm.MethodName)).before a s = true := h _ (tin8 (List.mem_of_getElem? (l := tables_1_8) (i := 34) rfl)) rfl a
set_option maxRecDepth 100000 in
theorem q1715 {s : State} {a : Array Value} (h : mT s) : (Jvm.Cond.selects "ShareVaultModel" ({ cls := "ShareVaultModel", name := "toldSecret", desc := "()I" } : Jvm.MethodName) ({ cls := "ShareVaultModel", name := "toldSecret", desc := "()I" } : Jvm.MethodName)).before a s = true := h _ (tin8 (List.mem_of_getElem? (l := tables_1_8) (i := 35) rfl)) rfl a
set_option maxRecDepth 100000 in
theorem q1717 {s : State} {a : Array Value} (h : mT s) : (Jvm.Cond.methodLink "ShareVaultModel" (172 : Nat) ({ cls := "ShareVaultModel", name := "areEnough", desc := "()Z" } : Jvm.MethodName)).before a s = true := h _ (tin8 (List.mem_of_getElem? (l := tables_1_8) (i := 37) rfl)) rfl a
set_option maxRecDepth 100000 in
theorem q1719 {s : State} {a : Array Value} (h : mT s) : (Jvm.Cond.instanceMethod ({ cls := "ShareVaultModel", name := "areEnough", desc := "()Z" } : Jvm.MethodName)).before a s = true := h _ (tin8 (List.mem_of_getElem? (l := tables_1_8) (i := 39) rfl)) rfl a
set_option maxRecDepth 100000 in
theorem q1725 {s : State} {a : Array Value} (h : mT s) : (Jvm.Cond.methodLink "ShareVaultModel" (176 : Nat) ({ cls := "ShareVaultModel", name := "toldSecret", desc := "()I" } : Jvm.MethodName)).before a s = true := h _ (tin8 (List.mem_of_getElem? (l := tables_1_8) (i := 45) rfl)) rfl a
set_option maxRecDepth 100000 in
theorem q1735 {s : State} {a : Array Value} (h : mT s) : (Jvm.Cond.instanceMethod ({ cls := "ShareVaultModel", name := "mostAgreeing", desc := "()I" } : Jvm.MethodName)).before a s = true := h _ (tin8 (List.mem_of_getElem? (l := tables_1_8) (i := 55) rfl)) rfl a
set_option maxRecDepth 100000 in
theorem q1736 {s : State} {a : Array Value} (h : mT s) : (Jvm.Cond.selects "ShareVaultModel" ({ cls := "ShareVaultModel", name := "mostAgreeing", desc := "()I" } : Jvm.MethodName) ({ cls := "ShareVaultModel", name := "mostAgreeing", desc := "()I" } : Jvm.MethodName)).before a s = true := h _ (tin8 (List.mem_of_getElem? (l := tables_1_8) (i := 56) rfl)) rfl a
set_option maxRecDepth 100000 in
theorem q1738 {s : State} {a : Array Value} (h : mT s) : (Jvm.Cond.methodLink "ShareVaultModel" (80 : Nat) ({ cls := "ShareVaultModel", name := "most", desc := "(II)I" } : Jvm.MethodName)).before a s = true := h _ (tin8 (List.mem_of_getElem? (l := tables_1_8) (i := 58) rfl)) rfl a
set_option maxRecDepth 100000 in
theorem q1740 {s : State} {a : Array Value} (h : mT s) : (Jvm.Cond.instanceMethod ({ cls := "ShareVaultModel", name := "most", desc := "(II)I" } : Jvm.MethodName)).before a s = true := h _ (tin8 (List.mem_of_getElem? (l := tables_1_8) (i := 60) rfl)) rfl a
set_option maxRecDepth 100000 in
theorem q1746 {s : State} {a : Array Value} (h : mT s) : (Jvm.Cond.methodLink "ShareVaultModel" (179 : Nat) ({ cls := "ShareVaultModel", name := "mostAgreeing", desc := "()I" } : Jvm.MethodName)).before a s = true := h _ (tin8 (List.mem_of_getElem? (l := tables_1_8) (i := 66) rfl)) rfl a
set_option maxRecDepth 100000 in
theorem q1775 {s : State} {a : Array Value} (h : mT s) : (Jvm.Cond.methodLink "ShareVaultModel" (182 : Nat) ({ cls := "ShareVaultModel", name := "isAsked", desc := "(I)Z" } : Jvm.MethodName)).before a s = true := h _ (tin8 (List.mem_of_getElem? (l := tables_1_8) (i := 95) rfl)) rfl a
set_option maxRecDepth 100000 in
theorem q1777 {s : State} {a : Array Value} (h : mT s) : (Jvm.Cond.instanceMethod ({ cls := "ShareVaultModel", name := "isAsked", desc := "(I)Z" } : Jvm.MethodName)).before a s = true := h _ (tin8 (List.mem_of_getElem? (l := tables_1_8) (i := 97) rfl)) rfl a
set_option maxRecDepth 100000 in
theorem q1784 {s : State} {a : Array Value} (h : mT s) : (Jvm.Cond.instanceMethod ({ cls := "ShareVaultModel", name := "hoursUntilVisit", desc := "(I)I" } : Jvm.MethodName)).before a s = true := h _ (tin8 (List.mem_of_getElem? (l := tables_1_8) (i := 104) rfl)) rfl a
set_option maxRecDepth 100000 in
theorem q1785 {s : State} {a : Array Value} (h : mT s) : (Jvm.Cond.selects "ShareVaultModel" ({ cls := "ShareVaultModel", name := "hoursUntilVisit", desc := "(I)I" } : Jvm.MethodName) ({ cls := "ShareVaultModel", name := "hoursUntilVisit", desc := "(I)I" } : Jvm.MethodName)).before a s = true := h _ (tin8 (List.mem_of_getElem? (l := tables_1_8) (i := 105) rfl)) rfl a
set_option maxRecDepth 100000 in
theorem q1787 {s : State} {a : Array Value} (h : mT s) : (Jvm.Cond.methodLink "ShareVaultModel" (185 : Nat) ({ cls := "ShareVaultModel", name := "thinks", desc := "()V" } : Jvm.MethodName)).before a s = true := h _ (tin8 (List.mem_of_getElem? (l := tables_1_8) (i := 107) rfl)) rfl a
set_option maxRecDepth 100000 in
theorem q1789 {s : State} {a : Array Value} (h : mT s) : (Jvm.Cond.instanceMethod ({ cls := "ShareVaultModel", name := "thinks", desc := "()V" } : Jvm.MethodName)).before a s = true := h _ (tin8 (List.mem_of_getElem? (l := tables_1_8) (i := 109) rfl)) rfl a
set_option maxRecDepth 100000 in
theorem q1791 {s : State} {a : Array Value} (h : mT s) : (Jvm.Cond.methodLink "ShareVaultModel" (188 : Nat) ({ cls := "ShareVaultModel", name := "back", desc := "()V" } : Jvm.MethodName)).before a s = true := h _ (tin8 (List.mem_of_getElem? (l := tables_1_8) (i := 111) rfl)) rfl a
set_option maxRecDepth 100000 in
theorem q1793 {s : State} {a : Array Value} (h : mT s) : (Jvm.Cond.instanceMethod ({ cls := "ShareVaultModel", name := "back", desc := "()V" } : Jvm.MethodName)).before a s = true := h _ (tin8 (List.mem_of_getElem? (l := tables_1_8) (i := 113) rfl)) rfl a
set_option maxRecDepth 100000 in
theorem q1799 {s : State} {a : Array Value} (h : mT s) : (Jvm.Cond.methodLink "ShareVaultModel" (191 : Nat) ({ cls := "ShareVaultModel", name := "hoursUntilVisit", desc := "(I)I" } : Jvm.MethodName)).before a s = true := h _ (tin8 (List.mem_of_getElem? (l := tables_1_8) (i := 119) rfl)) rfl a
set_option maxRecDepth 100000 in
theorem q1808 {s : State} {a : Array Value} (h : mT s) : (Jvm.Cond.methodLink "ShareVaultModel" (194 : Nat) ({ cls := "ShareVaultModel", name := "isAhead", desc := "(II)Z" } : Jvm.MethodName)).before a s = true := h _ (tin8 (List.mem_of_getElem? (l := tables_1_8) (i := 128) rfl)) rfl a
set_option maxRecDepth 100000 in
theorem q1810 {s : State} {a : Array Value} (h : mT s) : (Jvm.Cond.instanceMethod ({ cls := "ShareVaultModel", name := "isAhead", desc := "(II)Z" } : Jvm.MethodName)).before a s = true := h _ (tin8 (List.mem_of_getElem? (l := tables_1_8) (i := 130) rfl)) rfl a
set_option maxRecDepth 100000 in
theorem q1832 {s : State} {a : Array Value} (h : mT s) : (Jvm.Cond.methodLink "ShareVaultModel" (198 : Nat) ({ cls := "ShareVaultModel", name := "entry", desc := "(II)I" } : Jvm.MethodName)).before a s = true := h _ (tin8 (List.mem_of_getElem? (l := tables_1_8) (i := 152) rfl)) rfl a
set_option maxRecDepth 100000 in
theorem q1834 {s : State} {a : Array Value} (h : mT s) : (Jvm.Cond.instanceMethod ({ cls := "ShareVaultModel", name := "entry", desc := "(II)I" } : Jvm.MethodName)).before a s = true := h _ (tin8 (List.mem_of_getElem? (l := tables_1_8) (i := 154) rfl)) rfl a
set_option maxRecDepth 100000 in
theorem q1848 {s : State} {a : Array Value} (h : mT s) : (Jvm.Cond.constantDouble "ShareVaultModel" (201 : Nat) (4620693217682128896 : UInt64)).before a s = true := h _ (tin8 (List.mem_of_getElem? (l := tables_1_8) (i := 168) rfl)) rfl a
set_option maxRecDepth 100000 in
theorem q1877 {s : State} {a : Array Value} (h : mT s) : (Jvm.Cond.methodLink "ShareVaultModel" (277 : Nat) ({ cls := "ShareVaultModel", name := "readsOne", desc := "()V" } : Jvm.MethodName)).before a s = true := h _ (tin8 (List.mem_of_getElem? (l := tables_1_8) (i := 197) rfl)) rfl a
set_option maxRecDepth 100000 in
theorem q1879 {s : State} {a : Array Value} (h : mT s) : (Jvm.Cond.instanceMethod ({ cls := "ShareVaultModel", name := "readsOne", desc := "()V" } : Jvm.MethodName)).before a s = true := h _ (tin8 (List.mem_of_getElem? (l := tables_1_8) (i := 199) rfl)) rfl a
set_option maxRecDepth 100000 in
theorem q1881 {s : State} {a : Array Value} (h : mT s) : (Jvm.Cond.methodLink "ShareVaultModel" (221 : Nat) ({ cls := "ShareVaultModel", name := "here", desc := "(I)I" } : Jvm.MethodName)).before a s = true := h _ (tin8 (List.mem_of_getElem? (l := tables_1_8) (i := 201) rfl)) rfl a
set_option maxRecDepth 100000 in
theorem q1883 {s : State} {a : Array Value} (h : mT s) : (Jvm.Cond.instanceMethod ({ cls := "ShareVaultModel", name := "here", desc := "(I)I" } : Jvm.MethodName)).before a s = true := h _ (tin8 (List.mem_of_getElem? (l := tables_1_8) (i := 203) rfl)) rfl a
set_option maxRecDepth 100000 in
theorem q1886 {s : State} {a : Array Value} (h : mT s) : (Jvm.Cond.methodLink "ShareVaultModel" (237 : Nat) ({ cls := "ShareVaultModel", name := "number", desc := "(Ljava/lang/String;II)V" } : Jvm.MethodName)).before a s = true := h _ (tin8 (List.mem_of_getElem? (l := tables_1_8) (i := 206) rfl)) rfl a
set_option maxRecDepth 100000 in
theorem q1888 {s : State} {a : Array Value} (h : mT s) : (Jvm.Cond.instanceMethod ({ cls := "ShareVaultModel", name := "number", desc := "(Ljava/lang/String;II)V" } : Jvm.MethodName)).before a s = true := h _ (tin8 (List.mem_of_getElem? (l := tables_1_8) (i := 208) rfl)) rfl a
set_option maxRecDepth 100000 in
theorem q1890 {s : State} {a : Array Value} (h : mT s) : (Jvm.Cond.methodLink "ShareVaultModel" (228 : Nat) ({ cls := "ShareVaultModel", name := "says", desc := "(Ljava/lang/String;)V" } : Jvm.MethodName)).before a s = true := h _ (tin8 (List.mem_of_getElem? (l := tables_1_8) (i := 210) rfl)) rfl a
set_option maxRecDepth 100000 in
theorem q1892 {s : State} {a : Array Value} (h : mT s) : (Jvm.Cond.instanceMethod ({ cls := "ShareVaultModel", name := "says", desc := "(Ljava/lang/String;)V" } : Jvm.MethodName)).before a s = true := h _ (tin8 (List.mem_of_getElem? (l := tables_1_8) (i := 212) rfl)) rfl a
set_option maxRecDepth 100000 in
theorem q1894 {s : State} {a : Array Value} (h : mT s) : (Jvm.Cond.methodLink "ShareVaultModel" (212 : Nat) ({ cls := "java/lang/String", name := "length", desc := "()I" } : Jvm.MethodName)).before a s = true := h _ (tin8 (List.mem_of_getElem? (l := tables_1_8) (i := 214) rfl)) rfl a
set_option maxRecDepth 100000 in
theorem q1895 {s : State} {a : Array Value} (h : mT s) : (Jvm.Cond.methodLink "ShareVaultModel" (224 : Nat) ({ cls := "java/lang/String", name := "charAt", desc := "(I)C" } : Jvm.MethodName)).before a s = true := h _ (tin8 (List.mem_of_getElem? (l := tables_1_8) (i := 215) rfl)) rfl a
set_option maxRecDepth 100000 in
theorem q1899 {s : State} {a : Array Value} (h : mT s) : (Jvm.Cond.methodLink "ShareVaultModel" (255 : Nat) ({ cls := "ShareVaultModel", name := "readsSeal", desc := "()V" } : Jvm.MethodName)).before a s = true := h _ (tin8 (List.mem_of_getElem? (l := tables_1_8) (i := 219) rfl)) rfl a
set_option maxRecDepth 100000 in
theorem q1901 {s : State} {a : Array Value} (h : mT s) : (Jvm.Cond.instanceMethod ({ cls := "ShareVaultModel", name := "readsSeal", desc := "()V" } : Jvm.MethodName)).before a s = true := h _ (tin8 (List.mem_of_getElem? (l := tables_1_8) (i := 221) rfl)) rfl a
set_option maxRecDepth 100000 in
theorem q1904 {s : State} {a : Array Value} (h : mT s) : (Jvm.Cond.methodLink "ShareVaultModel" (258 : Nat) ({ cls := "ShareVaultModel", name := "readsGuard", desc := "()V" } : Jvm.MethodName)).before a s = true := h _ (tin8 (List.mem_of_getElem? (l := tables_1_8) (i := 224) rfl)) rfl a
set_option maxRecDepth 100000 in
theorem q1906 {s : State} {a : Array Value} (h : mT s) : (Jvm.Cond.instanceMethod ({ cls := "ShareVaultModel", name := "readsGuard", desc := "()V" } : Jvm.MethodName)).before a s = true := h _ (tin8 (List.mem_of_getElem? (l := tables_1_8) (i := 226) rfl)) rfl a
set_option maxRecDepth 100000 in
theorem q1915 {s : State} {a : Array Value} (h : mT s) : (Jvm.Cond.methodLink "ShareVaultModel" (271 : Nat) ({ cls := "ShareVaultModel", name := "readsWait", desc := "()V" } : Jvm.MethodName)).before a s = true := h _ (tin8 (List.mem_of_getElem? (l := tables_1_8) (i := 235) rfl)) rfl a
set_option maxRecDepth 100000 in
theorem q1917 {s : State} {a : Array Value} (h : mT s) : (Jvm.Cond.instanceMethod ({ cls := "ShareVaultModel", name := "readsWait", desc := "()V" } : Jvm.MethodName)).before a s = true := h _ (tin8 (List.mem_of_getElem? (l := tables_1_8) (i := 237) rfl)) rfl a
set_option maxRecDepth 100000 in
theorem q1920 {s : State} {a : Array Value} (h : mT s) : (Jvm.Cond.methodLink "ShareVaultModel" (280 : Nat) ({ cls := "ShareVaultModel", name := "does", desc := "(I)I" } : Jvm.MethodName)).before a s = true := h _ (tin9 (List.mem_of_getElem? (l := tables_1_9) (i := 0) rfl)) rfl a
set_option maxRecDepth 100000 in
theorem q1922 {s : State} {a : Array Value} (h : mT s) : (Jvm.Cond.instanceMethod ({ cls := "ShareVaultModel", name := "does", desc := "(I)I" } : Jvm.MethodName)).before a s = true := h _ (tin9 (List.mem_of_getElem? (l := tables_1_9) (i := 2) rfl)) rfl a
set_option maxRecDepth 100000 in
theorem q1924 {s : State} {a : Array Value} (h : mT s) : (Jvm.Cond.methodLink "ShareVaultModel" (274 : Nat) ({ cls := "ShareVaultModel", name := "opens", desc := "()I" } : Jvm.MethodName)).before a s = true := h _ (tin9 (List.mem_of_getElem? (l := tables_1_9) (i := 4) rfl)) rfl a
set_option maxRecDepth 100000 in
theorem q1926 {s : State} {a : Array Value} (h : mT s) : (Jvm.Cond.instanceMethod ({ cls := "ShareVaultModel", name := "opens", desc := "()I" } : Jvm.MethodName)).before a s = true := h _ (tin9 (List.mem_of_getElem? (l := tables_1_9) (i := 6) rfl)) rfl a
set_option maxRecDepth 100000 in
theorem q1936 {s : State} {a : Array Value} (h : mT s) : (Jvm.Cond.methodLink "ShareVaultModel" (286 : Nat) ({ cls := "ShareVaultModel", name := "writes", desc := "(I)V" } : Jvm.MethodName)).before a s = true := h _ (tin9 (List.mem_of_getElem? (l := tables_1_9) (i := 16) rfl)) rfl a
set_option maxRecDepth 100000 in
theorem q1938 {s : State} {a : Array Value} (h : mT s) : (Jvm.Cond.instanceMethod ({ cls := "ShareVaultModel", name := "writes", desc := "(I)V" } : Jvm.MethodName)).before a s = true := h _ (tin9 (List.mem_of_getElem? (l := tables_1_9) (i := 18) rfl)) rfl a
set_option maxRecDepth 100000 in
theorem q1940 {s : State} {a : Array Value} (h : mT s) : (Jvm.Cond.methodLink "ShareVaultModel" (290 : Nat) ({ cls := "ShareVaultModel", name := "writesNumber", desc := "(I)V" } : Jvm.MethodName)).before a s = true := h _ (tin9 (List.mem_of_getElem? (l := tables_1_9) (i := 20) rfl)) rfl a
set_option maxRecDepth 100000 in
theorem q1942 {s : State} {a : Array Value} (h : mT s) : (Jvm.Cond.instanceMethod ({ cls := "ShareVaultModel", name := "writesNumber", desc := "(I)V" } : Jvm.MethodName)).before a s = true := h _ (tin9 (List.mem_of_getElem? (l := tables_1_9) (i := 22) rfl)) rfl a
set_option maxRecDepth 100000 in
theorem q1993 {s : State} {a : Array Value} (h : mT s) : (Jvm.Cond.fieldLink "ShareVault$Commands" (62 : Nat) "ShareVault$Word" "letters" "Ljava/lang/String;").before a s = true := h _ (tin9 (List.mem_of_getElem? (l := tables_1_9) (i := 73) rfl)) rfl a
set_option maxRecDepth 100000 in
theorem q1994 {s : State} {a : Array Value} (h : mT s) : (Jvm.Cond.fieldLink "java/lang/String" (9 : Nat) "java/lang/String" "value" "[B").before a s = true := h _ (tin9 (List.mem_of_getElem? (l := tables_1_9) (i := 74) rfl)) rfl a
set_option maxRecDepth 100000 in
theorem q1995 {s : State} {a : Array Value} (h : mT s) : (Jvm.Cond.fieldLink "java/lang/String" (15 : Nat) "java/lang/String" "coder" "B").before a s = true := h _ (tin9 (List.mem_of_getElem? (l := tables_1_9) (i := 75) rfl)) rfl a
set_option maxRecDepth 100000 in
theorem q1996 {s : State} {a : Array Value} (h : mT s) : (Jvm.Cond.fieldLink "ShareVault$Commands" (51 : Nat) "ShareVault$Word" "form" "Ljava/lang/String;").before a s = true := h _ (tin9 (List.mem_of_getElem? (l := tables_1_9) (i := 76) rfl)) rfl a
set_option maxRecDepth 100000 in
theorem q1997 {s : State} {a : Array Value} (h : mT s) : (Jvm.Cond.fieldLink "java/lang/Enum" (7 : Nat) "java/lang/Enum" "ordinal" "I").before a s = true := h _ (tin9 (List.mem_of_getElem? (l := tables_1_9) (i := 77) rfl)) rfl a
set_option maxRecDepth 100000 in
theorem kc_X11_addGuard : Cond.code yX11_addGuard cX11_addGuard 4 (some .int) ∈ lw_tbl := tin4 (List.mem_of_getElem? (l := tables_1_4) (i := 135) rfl)
set_option maxRecDepth 100000 in
theorem ki_X11_addGuard : Cond.initialized yX11_addGuard.cls ∈ lw_tbl := tin1 (List.mem_of_getElem? (l := tables_1_1) (i := 1) rfl)
set_option maxRecDepth 100000 in
theorem kc_X11_addHolder : Cond.code yX11_addHolder cX11_addHolder 1 (some .int) ∈ lw_tbl := tin3 (List.mem_of_getElem? (l := tables_1_3) (i := 86) rfl)
set_option maxRecDepth 100000 in
theorem ki_X11_addHolder : Cond.initialized yX11_addHolder.cls ∈ lw_tbl := tin1 (List.mem_of_getElem? (l := tables_1_1) (i := 1) rfl)
set_option maxRecDepth 100000 in
theorem kc_X11_alarmCount : Cond.code yX11_alarmCount cX11_alarmCount 1 (some .int) ∈ lw_tbl := tin2 (List.mem_of_getElem? (l := tables_1_2) (i := 125) rfl)
set_option maxRecDepth 100000 in
theorem ki_X11_alarmCount : Cond.initialized yX11_alarmCount.cls ∈ lw_tbl := tin1 (List.mem_of_getElem? (l := tables_1_1) (i := 1) rfl)
set_option maxRecDepth 100000 in
theorem kc_X11_alarmShare : Cond.code yX11_alarmShare cX11_alarmShare 2 (some .float) ∈ lw_tbl := tin5 (List.mem_of_getElem? (l := tables_1_5) (i := 222) rfl)
set_option maxRecDepth 100000 in
theorem ki_X11_alarmShare : Cond.initialized yX11_alarmShare.cls ∈ lw_tbl := tin1 (List.mem_of_getElem? (l := tables_1_1) (i := 1) rfl)
set_option maxRecDepth 100000 in
theorem kc_X11_alarmsIn : Cond.code yX11_alarmsIn cX11_alarmsIn 3 (some .int) ∈ lw_tbl := tin5 (List.mem_of_getElem? (l := tables_1_5) (i := 146) rfl)
set_option maxRecDepth 100000 in
theorem ki_X11_alarmsIn : Cond.initialized yX11_alarmsIn.cls ∈ lw_tbl := tin1 (List.mem_of_getElem? (l := tables_1_1) (i := 1) rfl)
set_option maxRecDepth 100000 in
theorem kc_X11_alarmsOf : Cond.code yX11_alarmsOf cX11_alarmsOf 2 (some .int) ∈ lw_tbl := tin5 (List.mem_of_getElem? (l := tables_1_5) (i := 175) rfl)
set_option maxRecDepth 100000 in
theorem ki_X11_alarmsOf : Cond.initialized yX11_alarmsOf.cls ∈ lw_tbl := tin1 (List.mem_of_getElem? (l := tables_1_1) (i := 1) rfl)
set_option maxRecDepth 100000 in
theorem kc_X11_closeVault : Cond.code yX11_closeVault cX11_closeVault 1 (some .int) ∈ lw_tbl := tin4 (List.mem_of_getElem? (l := tables_1_4) (i := 124) rfl)
set_option maxRecDepth 100000 in
theorem ki_X11_closeVault : Cond.initialized yX11_closeVault.cls ∈ lw_tbl := tin1 (List.mem_of_getElem? (l := tables_1_1) (i := 1) rfl)
set_option maxRecDepth 100000 in
theorem kc_X11_doAgree : Cond.code yX11_doAgree cX11_doAgree 1 (some .boolean) ∈ lw_tbl := tin5 (List.mem_of_getElem? (l := tables_1_5) (i := 61) rfl)
set_option maxRecDepth 100000 in
theorem ki_X11_doAgree : Cond.initialized yX11_doAgree.cls ∈ lw_tbl := tin1 (List.mem_of_getElem? (l := tables_1_1) (i := 1) rfl)
set_option maxRecDepth 100000 in
theorem kc_X11_doTellingsMatch : Cond.code yX11_doTellingsMatch cX11_doTellingsMatch 2 (some .boolean) ∈ lw_tbl := tin2 (List.mem_of_getElem? (l := tables_1_2) (i := 186) rfl)
set_option maxRecDepth 100000 in
theorem ki_X11_doTellingsMatch : Cond.initialized yX11_doTellingsMatch.cls ∈ lw_tbl := tin1 (List.mem_of_getElem? (l := tables_1_1) (i := 1) rfl)
set_option maxRecDepth 100000 in
theorem kc_X11_doVisitsMatch : Cond.code yX11_doVisitsMatch cX11_doVisitsMatch 2 (some .boolean) ∈ lw_tbl := tin2 (List.mem_of_getElem? (l := tables_1_2) (i := 149) rfl)
set_option maxRecDepth 100000 in
theorem ki_X11_doVisitsMatch : Cond.initialized yX11_doVisitsMatch.cls ∈ lw_tbl := tin1 (List.mem_of_getElem? (l := tables_1_1) (i := 1) rfl)
set_option maxRecDepth 100000 in
theorem kc_X11_errorPosition : Cond.code yX11_errorPosition cX11_errorPosition 1 (some .int) ∈ lw_tbl := tin6 (List.mem_of_getElem? (l := tables_1_6) (i := 186) rfl)
set_option maxRecDepth 100000 in
theorem ki_X11_errorPosition : Cond.initialized yX11_errorPosition.cls ∈ lw_tbl := tin1 (List.mem_of_getElem? (l := tables_1_1) (i := 1) rfl)
set_option maxRecDepth 100000 in
theorem kc_X11_failedAttempts : Cond.code yX11_failedAttempts cX11_failedAttempts 1 (some .int) ∈ lw_tbl := tin2 (List.mem_of_getElem? (l := tables_1_2) (i := 117) rfl)
set_option maxRecDepth 100000 in
theorem ki_X11_failedAttempts : Cond.initialized yX11_failedAttempts.cls ∈ lw_tbl := tin1 (List.mem_of_getElem? (l := tables_1_1) (i := 1) rfl)
set_option maxRecDepth 100000 in
theorem kc_X11_feed : Cond.code yX11_feed cX11_feed 2 (some .int) ∈ lw_tbl := tin6 (List.mem_of_getElem? (l := tables_1_6) (i := 20) rfl)
set_option maxRecDepth 100000 in
theorem ki_X11_feed : Cond.initialized yX11_feed.cls ∈ lw_tbl := tin1 (List.mem_of_getElem? (l := tables_1_1) (i := 1) rfl)
set_option maxRecDepth 100000 in
theorem kc_X11_guardCount : Cond.code yX11_guardCount cX11_guardCount 1 (some .int) ∈ lw_tbl := tin2 (List.mem_of_getElem? (l := tables_1_2) (i := 121) rfl)
set_option maxRecDepth 100000 in
theorem ki_X11_guardCount : Cond.initialized yX11_guardCount.cls ∈ lw_tbl := tin1 (List.mem_of_getElem? (l := tables_1_1) (i := 1) rfl)
set_option maxRecDepth 100000 in
theorem kc_X11_holderCount : Cond.code yX11_holderCount cX11_holderCount 1 (some .int) ∈ lw_tbl := tin2 (List.mem_of_getElem? (l := tables_1_2) (i := 97) rfl)
set_option maxRecDepth 100000 in
theorem ki_X11_holderCount : Cond.initialized yX11_holderCount.cls ∈ lw_tbl := tin1 (List.mem_of_getElem? (l := tables_1_1) (i := 1) rfl)
set_option maxRecDepth 100000 in
theorem kc_X11_hour : Cond.code yX11_hour cX11_hour 1 (some .int) ∈ lw_tbl := tin2 (List.mem_of_getElem? (l := tables_1_2) (i := 93) rfl)
set_option maxRecDepth 100000 in
theorem ki_X11_hour : Cond.initialized yX11_hour.cls ∈ lw_tbl := tin1 (List.mem_of_getElem? (l := tables_1_1) (i := 1) rfl)
set_option maxRecDepth 100000 in
theorem kc_X11_hoursUntilVisit : Cond.code yX11_hoursUntilVisit cX11_hoursUntilVisit 2 (some .int) ∈ lw_tbl := tin5 (List.mem_of_getElem? (l := tables_1_5) (i := 127) rfl)
set_option maxRecDepth 100000 in
theorem ki_X11_hoursUntilVisit : Cond.initialized yX11_hoursUntilVisit.cls ∈ lw_tbl := tin1 (List.mem_of_getElem? (l := tables_1_1) (i := 1) rfl)
set_option maxRecDepth 100000 in
theorem kc_X11_hoursUntilVisitByRemainders : Cond.code yX11_hoursUntilVisitByRemainders cX11_hoursUntilVisitByRemainders 2 (some .int) ∈ lw_tbl := tin5 (List.mem_of_getElem? (l := tables_1_5) (i := 139) rfl)
set_option maxRecDepth 100000 in
theorem ki_X11_hoursUntilVisitByRemainders : Cond.initialized yX11_hoursUntilVisitByRemainders.cls ∈ lw_tbl := tin1 (List.mem_of_getElem? (l := tables_1_1) (i := 1) rfl)
set_option maxRecDepth 100000 in
theorem kc_X11_hum : Cond.code yX11_hum cX11_hum 3 (some .int) ∈ lw_tbl := tin4 (List.mem_of_getElem? (l := tables_1_4) (i := 168) rfl)
set_option maxRecDepth 100000 in
theorem ki_X11_hum : Cond.initialized yX11_hum.cls ∈ lw_tbl := tin1 (List.mem_of_getElem? (l := tables_1_1) (i := 1) rfl)
set_option maxRecDepth 100000 in
theorem kc_X11_isConsistent : Cond.code yX11_isConsistent cX11_isConsistent 1 (some .boolean) ∈ lw_tbl := tin2 (List.mem_of_getElem? (l := tables_1_2) (i := 145) rfl)
set_option maxRecDepth 100000 in
theorem ki_X11_isConsistent : Cond.initialized yX11_isConsistent.cls ∈ lw_tbl := tin1 (List.mem_of_getElem? (l := tables_1_1) (i := 1) rfl)
set_option maxRecDepth 100000 in
theorem kc_X11_isCorrect : Cond.code yX11_isCorrect cX11_isCorrect 2 (some .boolean) ∈ lw_tbl := tin5 (List.mem_of_getElem? (l := tables_1_5) (i := 10) rfl)
set_option maxRecDepth 100000 in
theorem ki_X11_isCorrect : Cond.initialized yX11_isCorrect.cls ∈ lw_tbl := tin1 (List.mem_of_getElem? (l := tables_1_1) (i := 1) rfl)
set_option maxRecDepth 100000 in
theorem kc_X11_isForwards : Cond.code yX11_isForwards cX11_isForwards 2 (some .boolean) ∈ lw_tbl := tin5 (List.mem_of_getElem? (l := tables_1_5) (i := 99) rfl)
set_option maxRecDepth 100000 in
theorem ki_X11_isForwards : Cond.initialized yX11_isForwards.cls ∈ lw_tbl := tin1 (List.mem_of_getElem? (l := tables_1_1) (i := 1) rfl)
set_option maxRecDepth 100000 in
theorem kc_X11_isGuarded : Cond.code yX11_isGuarded cX11_isGuarded 2 (some .boolean) ∈ lw_tbl := tin5 (List.mem_of_getElem? (l := tables_1_5) (i := 119) rfl)
set_option maxRecDepth 100000 in
theorem ki_X11_isGuarded : Cond.initialized yX11_isGuarded.cls ∈ lw_tbl := tin1 (List.mem_of_getElem? (l := tables_1_1) (i := 1) rfl)
set_option maxRecDepth 100000 in
theorem kc_X11_isOpen : Cond.code yX11_isOpen cX11_isOpen 1 (some .boolean) ∈ lw_tbl := tin2 (List.mem_of_getElem? (l := tables_1_2) (i := 109) rfl)
set_option maxRecDepth 100000 in
theorem ki_X11_isOpen : Cond.initialized yX11_isOpen.cls ∈ lw_tbl := tin1 (List.mem_of_getElem? (l := tables_1_1) (i := 1) rfl)
set_option maxRecDepth 100000 in
theorem kc_X11_isPresented : Cond.code yX11_isPresented cX11_isPresented 2 (some .boolean) ∈ lw_tbl := tin5 (List.mem_of_getElem? (l := tables_1_5) (i := 18) rfl)
set_option maxRecDepth 100000 in
theorem ki_X11_isPresented : Cond.initialized yX11_isPresented.cls ∈ lw_tbl := tin1 (List.mem_of_getElem? (l := tables_1_1) (i := 1) rfl)
set_option maxRecDepth 100000 in
theorem kc_X11_isSealed : Cond.code yX11_isSealed cX11_isSealed 1 (some .boolean) ∈ lw_tbl := tin2 (List.mem_of_getElem? (l := tables_1_2) (i := 101) rfl)
set_option maxRecDepth 100000 in
theorem ki_X11_isSealed : Cond.initialized yX11_isSealed.cls ∈ lw_tbl := tin1 (List.mem_of_getElem? (l := tables_1_1) (i := 1) rfl)
set_option maxRecDepth 100000 in
theorem kc_X11_keepRefusal : Cond.code yX11_keepRefusal cX11_keepRefusal 4 (none) ∈ lw_tbl := tin3 (List.mem_of_getElem? (l := tables_1_3) (i := 208) rfl)
set_option maxRecDepth 100000 in
theorem ki_X11_keepRefusal : Cond.initialized yX11_keepRefusal.cls ∈ lw_tbl := tin1 (List.mem_of_getElem? (l := tables_1_1) (i := 1) rfl)
set_option maxRecDepth 100000 in
theorem kc_X11_lockedHours : Cond.code yX11_lockedHours cX11_lockedHours 1 (some .int) ∈ lw_tbl := tin2 (List.mem_of_getElem? (l := tables_1_2) (i := 113) rfl)
set_option maxRecDepth 100000 in
theorem ki_X11_lockedHours : Cond.initialized yX11_lockedHours.cls ∈ lw_tbl := tin1 (List.mem_of_getElem? (l := tables_1_1) (i := 1) rfl)
set_option maxRecDepth 100000 in
theorem kc_X11_logCount : Cond.code yX11_logCount cX11_logCount 1 (some .int) ∈ lw_tbl := tin2 (List.mem_of_getElem? (l := tables_1_2) (i := 133) rfl)
set_option maxRecDepth 100000 in
theorem ki_X11_logCount : Cond.initialized yX11_logCount.cls ∈ lw_tbl := tin1 (List.mem_of_getElem? (l := tables_1_1) (i := 1) rfl)
set_option maxRecDepth 100000 in
theorem kc_X11_logDetail : Cond.code yX11_logDetail cX11_logDetail 2 (some .int) ∈ lw_tbl := tin5 (List.mem_of_getElem? (l := tables_1_5) (i := 201) rfl)
set_option maxRecDepth 100000 in
theorem ki_X11_logDetail : Cond.initialized yX11_logDetail.cls ∈ lw_tbl := tin1 (List.mem_of_getElem? (l := tables_1_1) (i := 1) rfl)
set_option maxRecDepth 100000 in
theorem kc_X11_logHour : Cond.code yX11_logHour cX11_logHour 2 (some .int) ∈ lw_tbl := tin5 (List.mem_of_getElem? (l := tables_1_5) (i := 182) rfl)
set_option maxRecDepth 100000 in
theorem ki_X11_logHour : Cond.initialized yX11_logHour.cls ∈ lw_tbl := tin1 (List.mem_of_getElem? (l := tables_1_1) (i := 1) rfl)
set_option maxRecDepth 100000 in
theorem kc_X11_logKind : Cond.code yX11_logKind cX11_logKind 2 (some .char) ∈ lw_tbl := tin5 (List.mem_of_getElem? (l := tables_1_5) (i := 194) rfl)
set_option maxRecDepth 100000 in
theorem ki_X11_logKind : Cond.initialized yX11_logKind.cls ∈ lw_tbl := tin1 (List.mem_of_getElem? (l := tables_1_1) (i := 1) rfl)
set_option maxRecDepth 100000 in
theorem kc_X11_meanNoise : Cond.code yX11_meanNoise cX11_meanNoise 1 (some .double) ∈ lw_tbl := tin2 (List.mem_of_getElem? (l := tables_1_2) (i := 137) rfl)
set_option maxRecDepth 100000 in
theorem ki_X11_meanNoise : Cond.initialized yX11_meanNoise.cls ∈ lw_tbl := tin1 (List.mem_of_getElem? (l := tables_1_1) (i := 1) rfl)
set_option maxRecDepth 100000 in
theorem kc_X11_mostAgreeing : Cond.code yX11_mostAgreeing cX11_mostAgreeing 1 (some .int) ∈ lw_tbl := tin5 (List.mem_of_getElem? (l := tables_1_5) (i := 72) rfl)
set_option maxRecDepth 100000 in
theorem ki_X11_mostAgreeing : Cond.initialized yX11_mostAgreeing.cls ∈ lw_tbl := tin1 (List.mem_of_getElem? (l := tables_1_1) (i := 1) rfl)
set_option maxRecDepth 100000 in
theorem kc_X11_mostAgreeingBySets : Cond.code yX11_mostAgreeingBySets cX11_mostAgreeingBySets 1 (some .int) ∈ lw_tbl := tin5 (List.mem_of_getElem? (l := tables_1_5) (i := 79) rfl)
set_option maxRecDepth 100000 in
theorem ki_X11_mostAgreeingBySets : Cond.initialized yX11_mostAgreeingBySets.cls ∈ lw_tbl := tin1 (List.mem_of_getElem? (l := tables_1_1) (i := 1) rfl)
set_option maxRecDepth 100000 in
theorem kc_X11_noise : Cond.code yX11_noise cX11_noise 2 (some .int) ∈ lw_tbl := tin5 (List.mem_of_getElem? (l := tables_1_5) (i := 106) rfl)
set_option maxRecDepth 100000 in
theorem ki_X11_noise : Cond.initialized yX11_noise.cls ∈ lw_tbl := tin1 (List.mem_of_getElem? (l := tables_1_1) (i := 1) rfl)
set_option maxRecDepth 100000 in
theorem kc_X11_openVault : Cond.code yX11_openVault cX11_openVault 1 (some .boolean) ∈ lw_tbl := tin4 (List.mem_of_getElem? (l := tables_1_4) (i := 85) rfl)
set_option maxRecDepth 100000 in
theorem ki_X11_openVault : Cond.initialized yX11_openVault.cls ∈ lw_tbl := tin1 (List.mem_of_getElem? (l := tables_1_1) (i := 1) rfl)
set_option maxRecDepth 100000 in
theorem kc_X11_openingCount : Cond.code yX11_openingCount cX11_openingCount 1 (some .int) ∈ lw_tbl := tin2 (List.mem_of_getElem? (l := tables_1_2) (i := 129) rfl)
set_option maxRecDepth 100000 in
theorem ki_X11_openingCount : Cond.initialized yX11_openingCount.cls ∈ lw_tbl := tin1 (List.mem_of_getElem? (l := tables_1_1) (i := 1) rfl)
set_option maxRecDepth 100000 in
theorem kc_X11_outputChar : Cond.code yX11_outputChar cX11_outputChar 2 (some .char) ∈ lw_tbl := tin6 (List.mem_of_getElem? (l := tables_1_6) (i := 194) rfl)
set_option maxRecDepth 100000 in
theorem ki_X11_outputChar : Cond.initialized yX11_outputChar.cls ∈ lw_tbl := tin1 (List.mem_of_getElem? (l := tables_1_1) (i := 1) rfl)
set_option maxRecDepth 100000 in
theorem kc_X11_passHours : Cond.code yX11_passHours cX11_passHours 2 (some .int) ∈ lw_tbl := tin4 (List.mem_of_getElem? (l := tables_1_4) (i := 180) rfl)
set_option maxRecDepth 100000 in
theorem ki_X11_passHours : Cond.initialized yX11_passHours.cls ∈ lw_tbl := tin1 (List.mem_of_getElem? (l := tables_1_1) (i := 1) rfl)
set_option maxRecDepth 100000 in
theorem kc_X11_present : Cond.code yX11_present cX11_present 2 (some .int) ∈ lw_tbl := tin4 (List.mem_of_getElem? (l := tables_1_4) (i := 55) rfl)
set_option maxRecDepth 100000 in
theorem ki_X11_present : Cond.initialized yX11_present.cls ∈ lw_tbl := tin1 (List.mem_of_getElem? (l := tables_1_1) (i := 1) rfl)
set_option maxRecDepth 100000 in
theorem kc_X11_presentedAt : Cond.code yX11_presentedAt cX11_presentedAt 2 (some .int) ∈ lw_tbl := tin5 (List.mem_of_getElem? (l := tables_1_5) (i := 26) rfl)
set_option maxRecDepth 100000 in
theorem ki_X11_presentedAt : Cond.initialized yX11_presentedAt.cls ∈ lw_tbl := tin1 (List.mem_of_getElem? (l := tables_1_1) (i := 1) rfl)
set_option maxRecDepth 100000 in
theorem kc_X11_presentedCount : Cond.code yX11_presentedCount cX11_presentedCount 1 (some .int) ∈ lw_tbl := tin2 (List.mem_of_getElem? (l := tables_1_2) (i := 105) rfl)
set_option maxRecDepth 100000 in
theorem ki_X11_presentedCount : Cond.initialized yX11_presentedCount.cls ∈ lw_tbl := tin1 (List.mem_of_getElem? (l := tables_1_1) (i := 1) rfl)
set_option maxRecDepth 100000 in
theorem kc_X11_putGuardsIn : Cond.code yX11_putGuardsIn cX11_putGuardsIn 4 (none) ∈ lw_tbl := tin3 (List.mem_of_getElem? (l := tables_1_3) (i := 46) rfl)
set_option maxRecDepth 100000 in
theorem ki_X11_putGuardsIn : Cond.initialized yX11_putGuardsIn.cls ∈ lw_tbl := tin1 (List.mem_of_getElem? (l := tables_1_1) (i := 1) rfl)
set_option maxRecDepth 100000 in
theorem kc_X11_refusalCause : Cond.code yX11_refusalCause cX11_refusalCause 1 (some .int) ∈ lw_tbl := tin6 (List.mem_of_getElem? (l := tables_1_6) (i := 11) rfl)
set_option maxRecDepth 100000 in
theorem ki_X11_refusalCause : Cond.initialized yX11_refusalCause.cls ∈ lw_tbl := tin1 (List.mem_of_getElem? (l := tables_1_1) (i := 1) rfl)
set_option maxRecDepth 100000 in
theorem kc_X11_refusalDetail : Cond.code yX11_refusalDetail cX11_refusalDetail 1 (some .int) ∈ lw_tbl := tin6 (List.mem_of_getElem? (l := tables_1_6) (i := 4) rfl)
set_option maxRecDepth 100000 in
theorem ki_X11_refusalDetail : Cond.initialized yX11_refusalDetail.cls ∈ lw_tbl := tin1 (List.mem_of_getElem? (l := tables_1_1) (i := 1) rfl)
set_option maxRecDepth 100000 in
theorem kc_X11_refusalReason : Cond.code yX11_refusalReason cX11_refusalReason 1 (some .int) ∈ lw_tbl := tin5 (List.mem_of_getElem? (l := tables_1_5) (i := 232) rfl)
set_option maxRecDepth 100000 in
theorem ki_X11_refusalReason : Cond.initialized yX11_refusalReason.cls ∈ lw_tbl := tin1 (List.mem_of_getElem? (l := tables_1_1) (i := 1) rfl)
set_option maxRecDepth 100000 in
theorem kc_X11_requireEnoughKeys : Cond.code yX11_requireEnoughKeys cX11_requireEnoughKeys 1 (none) ∈ lw_tbl := tin5 (List.mem_of_getElem? (l := tables_1_5) (i := 38) rfl)
set_option maxRecDepth 100000 in
theorem ki_X11_requireEnoughKeys : Cond.initialized yX11_requireEnoughKeys.cls ∈ lw_tbl := tin1 (List.mem_of_getElem? (l := tables_1_1) (i := 1) rfl)
set_option maxRecDepth 100000 in
theorem kc_X11_requireEntry : Cond.code yX11_requireEntry cX11_requireEntry 2 (none) ∈ lw_tbl := tin5 (List.mem_of_getElem? (l := tables_1_5) (i := 186) rfl)
set_option maxRecDepth 100000 in
theorem ki_X11_requireEntry : Cond.initialized yX11_requireEntry.cls ∈ lw_tbl := tin1 (List.mem_of_getElem? (l := tables_1_1) (i := 1) rfl)
set_option maxRecDepth 100000 in
theorem kc_X11_requireGuard : Cond.code yX11_requireGuard cX11_requireGuard 2 (none) ∈ lw_tbl := tin5 (List.mem_of_getElem? (l := tables_1_5) (i := 90) rfl)
set_option maxRecDepth 100000 in
theorem ki_X11_requireGuard : Cond.initialized yX11_requireGuard.cls ∈ lw_tbl := tin1 (List.mem_of_getElem? (l := tables_1_1) (i := 1) rfl)
set_option maxRecDepth 100000 in
theorem kc_X11_requireGuards : Cond.code yX11_requireGuards cX11_requireGuards 1 (none) ∈ lw_tbl := tin5 (List.mem_of_getElem? (l := tables_1_5) (i := 131) rfl)
set_option maxRecDepth 100000 in
theorem ki_X11_requireGuards : Cond.initialized yX11_requireGuards.cls ∈ lw_tbl := tin1 (List.mem_of_getElem? (l := tables_1_1) (i := 1) rfl)
set_option maxRecDepth 100000 in
theorem kc_X11_requireHolder : Cond.code yX11_requireHolder cX11_requireHolder 2 (none) ∈ lw_tbl := tin5 (List.mem_of_getElem? (l := tables_1_5) (i := 1) rfl)
set_option maxRecDepth 100000 in
theorem ki_X11_requireHolder : Cond.initialized yX11_requireHolder.cls ∈ lw_tbl := tin1 (List.mem_of_getElem? (l := tables_1_1) (i := 1) rfl)
set_option maxRecDepth 100000 in
theorem kc_X11_requireRefusal : Cond.code yX11_requireRefusal cX11_requireRefusal 1 (none) ∈ lw_tbl := tin5 (List.mem_of_getElem? (l := tables_1_5) (i := 236) rfl)
set_option maxRecDepth 100000 in
theorem ki_X11_requireRefusal : Cond.initialized yX11_requireRefusal.cls ∈ lw_tbl := tin1 (List.mem_of_getElem? (l := tables_1_1) (i := 1) rfl)
set_option maxRecDepth 100000 in
theorem kc_X11_requireSeal : Cond.code yX11_requireSeal cX11_requireSeal 1 (none) ∈ lw_tbl := tin4 (List.mem_of_getElem? (l := tables_1_4) (i := 214) rfl)
set_option maxRecDepth 100000 in
theorem ki_X11_requireSeal : Cond.initialized yX11_requireSeal.cls ∈ lw_tbl := tin1 (List.mem_of_getElem? (l := tables_1_1) (i := 1) rfl)
set_option maxRecDepth 100000 in
theorem kc_X11_requireZone : Cond.code yX11_requireZone cX11_requireZone 2 (none) ∈ lw_tbl := tin5 (List.mem_of_getElem? (l := tables_1_5) (i := 110) rfl)
set_option maxRecDepth 100000 in
theorem ki_X11_requireZone : Cond.initialized yX11_requireZone.cls ∈ lw_tbl := tin1 (List.mem_of_getElem? (l := tables_1_1) (i := 1) rfl)
set_option maxRecDepth 100000 in
theorem kc_X11_restore : Cond.code yX11_restore cX11_restore 1 (some .int) ∈ lw_tbl := tin6 (List.mem_of_getElem? (l := tables_1_6) (i := 214) rfl)
set_option maxRecDepth 100000 in
theorem ki_X11_restore : Cond.initialized yX11_restore.cls ∈ lw_tbl := tin1 (List.mem_of_getElem? (l := tables_1_1) (i := 1) rfl)
set_option maxRecDepth 100000 in
theorem kc_X11_runCommands : Cond.code yX11_runCommands cX11_runCommands 4 (some .int) ∈ lw_tbl := tin6 (List.mem_of_getElem? (l := tables_1_6) (i := 47) rfl)
set_option maxRecDepth 100000 in
theorem ki_X11_runCommands : Cond.initialized yX11_runCommands.cls ∈ lw_tbl := tin1 (List.mem_of_getElem? (l := tables_1_1) (i := 1) rfl)
set_option maxRecDepth 100000 in
theorem kc_X11_save : Cond.code yX11_save cX11_save 1 (some .int) ∈ lw_tbl := tin3 (List.mem_of_getElem? (l := tables_1_3) (i := 59) rfl)
set_option maxRecDepth 100000 in
theorem ki_X11_save : Cond.initialized yX11_save.cls ∈ lw_tbl := tin1 (List.mem_of_getElem? (l := tables_1_1) (i := 1) rfl)
set_option maxRecDepth 100000 in
theorem kc_X11_seal : Cond.code yX11_seal cX11_seal 5 (some .int) ∈ lw_tbl := tin3 (List.mem_of_getElem? (l := tables_1_3) (i := 237) rfl)
set_option maxRecDepth 100000 in
theorem ki_X11_seal : Cond.initialized yX11_seal.cls ∈ lw_tbl := tin1 (List.mem_of_getElem? (l := tables_1_1) (i := 1) rfl)
set_option maxRecDepth 100000 in
theorem kc_X11_setShare : Cond.code yX11_setShare cX11_setShare 3 (some .int) ∈ lw_tbl := tin4 (List.mem_of_getElem? (l := tables_1_4) (i := 40) rfl)
set_option maxRecDepth 100000 in
theorem ki_X11_setShare : Cond.initialized yX11_setShare.cls ∈ lw_tbl := tin1 (List.mem_of_getElem? (l := tables_1_1) (i := 1) rfl)
set_option maxRecDepth 100000 in
theorem kc_X11_settle : Cond.code yX11_settle cX11_settle 3 (some .int) ∈ lw_tbl := tin3 (List.mem_of_getElem? (l := tables_1_3) (i := 108) rfl)
set_option maxRecDepth 100000 in
theorem ki_X11_settle : Cond.initialized yX11_settle.cls ∈ lw_tbl := tin1 (List.mem_of_getElem? (l := tables_1_1) (i := 1) rfl)
set_option maxRecDepth 100000 in
theorem kc_X11_share : Cond.code yX11_share cX11_share 2 (some .int) ∈ lw_tbl := tin4 (List.mem_of_getElem? (l := tables_1_4) (i := 237) rfl)
set_option maxRecDepth 100000 in
theorem ki_X11_share : Cond.initialized yX11_share.cls ∈ lw_tbl := tin1 (List.mem_of_getElem? (l := tables_1_1) (i := 1) rfl)
set_option maxRecDepth 100000 in
theorem kc_X11_takeBack : Cond.code yX11_takeBack cX11_takeBack 2 (some .int) ∈ lw_tbl := tin4 (List.mem_of_getElem? (l := tables_1_4) (i := 70) rfl)
set_option maxRecDepth 100000 in
theorem ki_X11_takeBack : Cond.initialized yX11_takeBack.cls ∈ lw_tbl := tin1 (List.mem_of_getElem? (l := tables_1_1) (i := 1) rfl)
set_option maxRecDepth 100000 in
theorem kc_X11_threshold : Cond.code yX11_threshold cX11_threshold 1 (some .int) ∈ lw_tbl := tin4 (List.mem_of_getElem? (l := tables_1_4) (i := 210) rfl)
set_option maxRecDepth 100000 in
theorem ki_X11_threshold : Cond.initialized yX11_threshold.cls ∈ lw_tbl := tin1 (List.mem_of_getElem? (l := tables_1_1) (i := 1) rfl)
set_option maxRecDepth 100000 in
theorem kc_X11_toldSecret : Cond.code yX11_toldSecret cX11_toldSecret 1 (some .int) ∈ lw_tbl := tin5 (List.mem_of_getElem? (l := tables_1_5) (i := 34) rfl)
set_option maxRecDepth 100000 in
theorem ki_X11_toldSecret : Cond.initialized yX11_toldSecret.cls ∈ lw_tbl := tin1 (List.mem_of_getElem? (l := tables_1_1) (i := 1) rfl)
set_option maxRecDepth 100000 in
theorem kc_X11_toldSecretByElimination : Cond.code yX11_toldSecretByElimination cX11_toldSecretByElimination 1 (some .int) ∈ lw_tbl := tin5 (List.mem_of_getElem? (l := tables_1_5) (i := 46) rfl)
set_option maxRecDepth 100000 in
theorem ki_X11_toldSecretByElimination : Cond.initialized yX11_toldSecretByElimination.cls ∈ lw_tbl := tin1 (List.mem_of_getElem? (l := tables_1_1) (i := 1) rfl)
set_option maxRecDepth 100000 in
theorem kc_X11_toldValue : Cond.code yX11_toldValue cX11_toldValue 2 (some .int) ∈ lw_tbl := tin5 (List.mem_of_getElem? (l := tables_1_5) (i := 53) rfl)
set_option maxRecDepth 100000 in
theorem ki_X11_toldValue : Cond.initialized yX11_toldValue.cls ∈ lw_tbl := tin1 (List.mem_of_getElem? (l := tables_1_1) (i := 1) rfl)
set_option maxRecDepth 100000 in
theorem kc_X11_turnGuard : Cond.code yX11_turnGuard cX11_turnGuard 2 (some .boolean) ∈ lw_tbl := tin4 (List.mem_of_getElem? (l := tables_1_4) (i := 153) rfl)
set_option maxRecDepth 100000 in
theorem ki_X11_turnGuard : Cond.initialized yX11_turnGuard.cls ∈ lw_tbl := tin1 (List.mem_of_getElem? (l := tables_1_1) (i := 1) rfl)
set_option maxRecDepth 100000 in
theorem kc_X11_undo : Cond.code yX11_undo cX11_undo 1 (some .int) ∈ lw_tbl := tin6 (List.mem_of_getElem? (l := tables_1_6) (i := 202) rfl)
set_option maxRecDepth 100000 in
theorem ki_X11_undo : Cond.initialized yX11_undo.cls ∈ lw_tbl := tin1 (List.mem_of_getElem? (l := tables_1_1) (i := 1) rfl)
set_option maxRecDepth 100000 in
theorem kc_X11_undoCount : Cond.code yX11_undoCount cX11_undoCount 1 (some .int) ∈ lw_tbl := tin3 (List.mem_of_getElem? (l := tables_1_3) (i := 55) rfl)
set_option maxRecDepth 100000 in
theorem ki_X11_undoCount : Cond.initialized yX11_undoCount.cls ∈ lw_tbl := tin1 (List.mem_of_getElem? (l := tables_1_1) (i := 1) rfl)
set_option maxRecDepth 100000 in
theorem kc_X11_visitByHours : Cond.code yX11_visitByHours cX11_visitByHours 3 (some .int) ∈ lw_tbl := tin2 (List.mem_of_getElem? (l := tables_1_2) (i := 153) rfl)
set_option maxRecDepth 100000 in
theorem ki_X11_visitByHours : Cond.initialized yX11_visitByHours.cls ∈ lw_tbl := tin1 (List.mem_of_getElem? (l := tables_1_1) (i := 1) rfl)
set_option maxRecDepth 100000 in
theorem kc_X11_writeLog : Cond.code yX11_writeLog cX11_writeLog 3 (some .int) ∈ lw_tbl := tin3 (List.mem_of_getElem? (l := tables_1_3) (i := 51) rfl)
set_option maxRecDepth 100000 in
theorem ki_X11_writeLog : Cond.initialized yX11_writeLog.cls ∈ lw_tbl := tin1 (List.mem_of_getElem? (l := tables_1_1) (i := 1) rfl)
set_option maxRecDepth 100000 in
theorem kc_X11_writeZones : Cond.code yX11_writeZones cX11_writeZones 2 (some .int) ∈ lw_tbl := tin3 (List.mem_of_getElem? (l := tables_1_3) (i := 25) rfl)
set_option maxRecDepth 100000 in
theorem ki_X11_writeZones : Cond.initialized yX11_writeZones.cls ∈ lw_tbl := tin1 (List.mem_of_getElem? (l := tables_1_1) (i := 1) rfl)
set_option maxRecDepth 100000 in
theorem kc_X11_zoneByNoise : Cond.code yX11_zoneByNoise cX11_zoneByNoise 2 (some .int) ∈ lw_tbl := tin5 (List.mem_of_getElem? (l := tables_1_5) (i := 155) rfl)
set_option maxRecDepth 100000 in
theorem ki_X11_zoneByNoise : Cond.initialized yX11_zoneByNoise.cls ∈ lw_tbl := tin1 (List.mem_of_getElem? (l := tables_1_1) (i := 1) rfl)
set_option maxRecDepth 100000 in
theorem kc_X11_zoneOf : Cond.code yX11_zoneOf cX11_zoneOf 2 (some .int) ∈ lw_tbl := tin5 (List.mem_of_getElem? (l := tables_1_5) (i := 86) rfl)
set_option maxRecDepth 100000 in
theorem ki_X11_zoneOf : Cond.initialized yX11_zoneOf.cls ∈ lw_tbl := tin1 (List.mem_of_getElem? (l := tables_1_1) (i := 1) rfl)
set_option maxRecDepth 100000 in
theorem kc_X1_beginHour : Cond.code yX1_beginHour cX1_beginHour 3 (none) ∈ lw_tbl := tin2 (List.mem_of_getElem? (l := tables_1_2) (i := 168) rfl)
set_option maxRecDepth 100000 in
theorem ki_X1_beginHour : Cond.initialized yX1_beginHour.cls ∈ lw_tbl := tin1 (List.mem_of_getElem? (l := tables_1_1) (i := 5) rfl)
set_option maxRecDepth 100000 in
theorem kc_X1_comesBefore : Cond.code yX1_comesBefore cX1_comesBefore 3 (some .boolean) ∈ lw_tbl := tin5 (List.mem_of_getElem? (l := tables_1_5) (i := 168) rfl)
set_option maxRecDepth 100000 in
theorem ki_X1_comesBefore : Cond.initialized yX1_comesBefore.cls ∈ lw_tbl := tin1 (List.mem_of_getElem? (l := tables_1_1) (i := 5) rfl)
set_option maxRecDepth 100000 in
theorem kc_X1_copyFrom : Cond.code yX1_copyFrom cX1_copyFrom 3 (none) ∈ lw_tbl := tin2 (List.mem_of_getElem? (l := tables_1_2) (i := 157) rfl)
set_option maxRecDepth 100000 in
theorem ki_X1_copyFrom : Cond.initialized yX1_copyFrom.cls ∈ lw_tbl := tin1 (List.mem_of_getElem? (l := tables_1_1) (i := 5) rfl)
set_option maxRecDepth 100000 in
theorem kc_X1_hasGuard : Cond.code yX1_hasGuard cX1_hasGuard 2 (some .boolean) ∈ lw_tbl := tin4 (List.mem_of_getElem? (l := tables_1_4) (i := 161) rfl)
set_option maxRecDepth 100000 in
theorem ki_X1_hasGuard : Cond.initialized yX1_hasGuard.cls ∈ lw_tbl := tin1 (List.mem_of_getElem? (l := tables_1_1) (i := 5) rfl)
set_option maxRecDepth 100000 in
theorem kc_X1_hasGuardBeside : Cond.code yX1_hasGuardBeside cX1_hasGuardBeside 2 (some .boolean) ∈ lw_tbl := tin4 (List.mem_of_getElem? (l := tables_1_4) (i := 194) rfl)
set_option maxRecDepth 100000 in
theorem ki_X1_hasGuardBeside : Cond.initialized yX1_hasGuardBeside.cls ∈ lw_tbl := tin1 (List.mem_of_getElem? (l := tables_1_1) (i := 5) rfl)
set_option maxRecDepth 100000 in
theorem kc_X1_hasGuardIn : Cond.code yX1_hasGuardIn cX1_hasGuardIn 3 (some .boolean) ∈ lw_tbl := tin2 (List.mem_of_getElem? (l := tables_1_2) (i := 164) rfl)
set_option maxRecDepth 100000 in
theorem ki_X1_hasGuardIn : Cond.initialized yX1_hasGuardIn.cls ∈ lw_tbl := tin1 (List.mem_of_getElem? (l := tables_1_1) (i := 5) rfl)
set_option maxRecDepth 100000 in
theorem kc_X1_hasZone : Cond.code yX1_hasZone cX1_hasZone 1 (some .boolean) ∈ lw_tbl := tin4 (List.mem_of_getElem? (l := tables_1_4) (i := 142) rfl)
set_option maxRecDepth 100000 in
theorem ki_X1_hasZone : Cond.initialized yX1_hasZone.cls ∈ lw_tbl := tin1 (List.mem_of_getElem? (l := tables_1_1) (i := 5) rfl)
set_option maxRecDepth 100000 in
theorem kc_X1_passOneHour : Cond.code yX1_passOneHour cX1_passOneHour 3 (some .int) ∈ lw_tbl := tin4 (List.mem_of_getElem? (l := tables_1_4) (i := 188) rfl)
set_option maxRecDepth 100000 in
theorem ki_X1_passOneHour : Cond.initialized yX1_passOneHour.cls ∈ lw_tbl := tin1 (List.mem_of_getElem? (l := tables_1_1) (i := 5) rfl)
set_option maxRecDepth 100000 in
theorem kc_X1_placeGuard : Cond.code yX1_placeGuard cX1_placeGuard 5 (some .int) ∈ lw_tbl := tin4 (List.mem_of_getElem? (l := tables_1_4) (i := 146) rfl)
set_option maxRecDepth 100000 in
theorem ki_X1_placeGuard : Cond.initialized yX1_placeGuard.cls ∈ lw_tbl := tin1 (List.mem_of_getElem? (l := tables_1_1) (i := 5) rfl)
set_option maxRecDepth 100000 in
theorem kc_X1_rankOf : Cond.code yX1_rankOf cX1_rankOf 4 (some .int) ∈ lw_tbl := tin5 (List.mem_of_getElem? (l := tables_1_5) (i := 164) rfl)
set_option maxRecDepth 100000 in
theorem ki_X1_rankOf : Cond.initialized yX1_rankOf.cls ∈ lw_tbl := tin1 (List.mem_of_getElem? (l := tables_1_1) (i := 5) rfl)
set_option maxRecDepth 100000 in
theorem kc_X1_sumOf : Cond.code yX1_sumOf cX1_sumOf 6 (some .int) ∈ lw_tbl := tin2 (List.mem_of_getElem? (l := tables_1_2) (i := 140) rfl)
set_option maxRecDepth 100000 in
theorem ki_X1_sumOf : Cond.initialized yX1_sumOf.cls ∈ lw_tbl := tin1 (List.mem_of_getElem? (l := tables_1_1) (i := 5) rfl)
set_option maxRecDepth 100000 in
theorem kc_X1_visitByRemainders : Cond.code yX1_visitByRemainders cX1_visitByRemainders 4 (some .int) ∈ lw_tbl := tin2 (List.mem_of_getElem? (l := tables_1_2) (i := 172) rfl)
set_option maxRecDepth 100000 in
theorem ki_X1_visitByRemainders : Cond.initialized yX1_visitByRemainders.cls ∈ lw_tbl := tin1 (List.mem_of_getElem? (l := tables_1_1) (i := 5) rfl)
set_option maxRecDepth 100000 in
theorem kc_X1_visitOf : Cond.code yX1_visitOf cX1_visitOf 5 (some .int) ∈ lw_tbl := tin2 (List.mem_of_getElem? (l := tables_1_2) (i := 176) rfl)
set_option maxRecDepth 100000 in
theorem ki_X1_visitOf : Cond.initialized yX1_visitOf.cls ∈ lw_tbl := tin1 (List.mem_of_getElem? (l := tables_1_1) (i := 5) rfl)
set_option maxRecDepth 100000 in
theorem kc_X1_zoneAtRank : Cond.code yX1_zoneAtRank cX1_zoneAtRank 3 (some .int) ∈ lw_tbl := tin5 (List.mem_of_getElem? (l := tables_1_5) (i := 160) rfl)
set_option maxRecDepth 100000 in
theorem ki_X1_zoneAtRank : Cond.initialized yX1_zoneAtRank.cls ∈ lw_tbl := tin1 (List.mem_of_getElem? (l := tables_1_1) (i := 5) rfl)
set_option maxRecDepth 100000 in
theorem kc_X2_addNumber : Cond.code yX2_addNumber cX2_addNumber 2 (none) ∈ lw_tbl := tin6 (List.mem_of_getElem? (l := tables_1_6) (i := 126) rfl)
set_option maxRecDepth 100000 in
theorem ki_X2_addNumber : Cond.initialized yX2_addNumber.cls ∈ lw_tbl := tin1 (List.mem_of_getElem? (l := tables_1_1) (i := 9) rfl)
set_option maxRecDepth 100000 in
theorem kc_X2_append : Cond.code yX2_append cX2_append 2 (some .int) ∈ lw_tbl := tin6 (List.mem_of_getElem? (l := tables_1_6) (i := 40) rfl)
set_option maxRecDepth 100000 in
theorem ki_X2_append : Cond.initialized yX2_append.cls ∈ lw_tbl := tin1 (List.mem_of_getElem? (l := tables_1_1) (i := 9) rfl)
set_option maxRecDepth 100000 in
theorem kc_X2_clear : Cond.code yX2_clear cX2_clear 1 (none) ∈ lw_tbl := tin6 (List.mem_of_getElem? (l := tables_1_6) (i := 146) rfl)
set_option maxRecDepth 100000 in
theorem ki_X2_clear : Cond.initialized yX2_clear.cls ∈ lw_tbl := tin1 (List.mem_of_getElem? (l := tables_1_1) (i := 9) rfl)
set_option maxRecDepth 100000 in
theorem kc_X2_matchingLetters : Cond.code yX2_matchingLetters cX2_matchingLetters 3 (some .int) ∈ lw_tbl := tin6 (List.mem_of_getElem? (l := tables_1_6) (i := 65) rfl)
set_option maxRecDepth 100000 in
theorem ki_X2_matchingLetters : Cond.initialized yX2_matchingLetters.cls ∈ lw_tbl := tin1 (List.mem_of_getElem? (l := tables_1_1) (i := 9) rfl)
set_option maxRecDepth 100000 in
theorem kc_X2_parse : Cond.code yX2_parse cX2_parse 2 (some .int) ∈ lw_tbl := tin6 (List.mem_of_getElem? (l := tables_1_6) (i := 51) rfl)
set_option maxRecDepth 100000 in
theorem ki_X2_parse : Cond.initialized yX2_parse.cls ∈ lw_tbl := tin1 (List.mem_of_getElem? (l := tables_1_1) (i := 9) rfl)
set_option maxRecDepth 100000 in
theorem kc_X2_peek : Cond.code yX2_peek cX2_peek 1 (some .int) ∈ lw_tbl := tin6 (List.mem_of_getElem? (l := tables_1_6) (i := 122) rfl)
set_option maxRecDepth 100000 in
theorem ki_X2_peek : Cond.initialized yX2_peek.cls ∈ lw_tbl := tin1 (List.mem_of_getElem? (l := tables_1_1) (i := 9) rfl)
set_option maxRecDepth 100000 in
theorem kc_X2_readBlank : Cond.code yX2_readBlank cX2_readBlank 1 (some .boolean) ∈ lw_tbl := tin6 (List.mem_of_getElem? (l := tables_1_6) (i := 142) rfl)
set_option maxRecDepth 100000 in
theorem ki_X2_readBlank : Cond.initialized yX2_readBlank.cls ∈ lw_tbl := tin1 (List.mem_of_getElem? (l := tables_1_1) (i := 9) rfl)
set_option maxRecDepth 100000 in
theorem kc_X2_readCommand : Cond.code yX2_readCommand cX2_readCommand 2 (some .boolean) ∈ lw_tbl := tin6 (List.mem_of_getElem? (l := tables_1_6) (i := 55) rfl)
set_option maxRecDepth 100000 in
theorem ki_X2_readCommand : Cond.initialized yX2_readCommand.cls ∈ lw_tbl := tin1 (List.mem_of_getElem? (l := tables_1_1) (i := 9) rfl)
set_option maxRecDepth 100000 in
theorem kc_X2_readDirection : Cond.code yX2_readDirection cX2_readDirection 2 (some .boolean) ∈ lw_tbl := tin6 (List.mem_of_getElem? (l := tables_1_6) (i := 138) rfl)
set_option maxRecDepth 100000 in
theorem ki_X2_readDirection : Cond.initialized yX2_readDirection.cls ∈ lw_tbl := tin1 (List.mem_of_getElem? (l := tables_1_1) (i := 9) rfl)
set_option maxRecDepth 100000 in
theorem kc_X2_readForm : Cond.code yX2_readForm cX2_readForm 4 (some .boolean) ∈ lw_tbl := tin6 (List.mem_of_getElem? (l := tables_1_6) (i := 118) rfl)
set_option maxRecDepth 100000 in
theorem ki_X2_readForm : Cond.initialized yX2_readForm.cls ∈ lw_tbl := tin1 (List.mem_of_getElem? (l := tables_1_1) (i := 9) rfl)
set_option maxRecDepth 100000 in
theorem kc_X2_readNumber : Cond.code yX2_readNumber cX2_readNumber 4 (some .boolean) ∈ lw_tbl := tin6 (List.mem_of_getElem? (l := tables_1_6) (i := 134) rfl)
set_option maxRecDepth 100000 in
theorem ki_X2_readNumber : Cond.initialized yX2_readNumber.cls ∈ lw_tbl := tin1 (List.mem_of_getElem? (l := tables_1_1) (i := 9) rfl)
set_option maxRecDepth 100000 in
theorem kc_X2_readPart : Cond.code yX2_readPart cX2_readPart 2 (some .boolean) ∈ lw_tbl := tin6 (List.mem_of_getElem? (l := tables_1_6) (i := 130) rfl)
set_option maxRecDepth 100000 in
theorem ki_X2_readPart : Cond.initialized yX2_readPart.cls ∈ lw_tbl := tin1 (List.mem_of_getElem? (l := tables_1_1) (i := 9) rfl)
set_option maxRecDepth 100000 in
theorem kc_X2_readWord : Cond.code yX2_readWord cX2_readWord 7 (some (.object "ShareVault$Word")) ∈ lw_tbl := tin6 (List.mem_of_getElem? (l := tables_1_6) (i := 59) rfl)
set_option maxRecDepth 100000 in
theorem ki_X2_readWord : Cond.initialized yX2_readWord.cls ∈ lw_tbl := tin1 (List.mem_of_getElem? (l := tables_1_1) (i := 9) rfl)
set_option maxRecDepth 100000 in
theorem kc_X3_copyFrom : Cond.code yX3_copyFrom cX3_copyFrom 2 (none) ∈ lw_tbl := tin3 (List.mem_of_getElem? (l := tables_1_3) (i := 72) rfl)
set_option maxRecDepth 100000 in
theorem ki_X3_copyFrom : Cond.initialized yX3_copyFrom.cls ∈ lw_tbl := tin1 (List.mem_of_getElem? (l := tables_1_1) (i := 4) rfl)
set_option maxRecDepth 100000 in
theorem kc_X3_countFailure : Cond.code yX3_countFailure cX3_countFailure 1 (none) ∈ lw_tbl := tin4 (List.mem_of_getElem? (l := tables_1_4) (i := 109) rfl)
set_option maxRecDepth 100000 in
theorem ki_X3_countFailure : Cond.initialized yX3_countFailure.cls ∈ lw_tbl := tin1 (List.mem_of_getElem? (l := tables_1_1) (i := 4) rfl)
set_option maxRecDepth 100000 in
theorem kc_X3_passOneHour : Cond.code yX3_passOneHour cX3_passOneHour 1 (none) ∈ lw_tbl := tin4 (List.mem_of_getElem? (l := tables_1_4) (i := 202) rfl)
set_option maxRecDepth 100000 in
theorem ki_X3_passOneHour : Cond.initialized yX3_passOneHour.cls ∈ lw_tbl := tin1 (List.mem_of_getElem? (l := tables_1_1) (i := 4) rfl)
set_option maxRecDepth 100000 in
theorem kc_X3_shutAnew : Cond.code yX3_shutAnew cX3_shutAnew 1 (none) ∈ lw_tbl := tin4 (List.mem_of_getElem? (l := tables_1_4) (i := 12) rfl)
set_option maxRecDepth 100000 in
theorem ki_X3_shutAnew : Cond.initialized yX3_shutAnew.cls ∈ lw_tbl := tin1 (List.mem_of_getElem? (l := tables_1_1) (i := 4) rfl)
set_option maxRecDepth 100000 in
theorem kc_X3_swingOpen : Cond.code yX3_swingOpen cX3_swingOpen 1 (none) ∈ lw_tbl := tin4 (List.mem_of_getElem? (l := tables_1_4) (i := 105) rfl)
set_option maxRecDepth 100000 in
theorem ki_X3_swingOpen : Cond.initialized yX3_swingOpen.cls ∈ lw_tbl := tin1 (List.mem_of_getElem? (l := tables_1_1) (i := 4) rfl)
set_option maxRecDepth 100000 in
theorem kc_X4_clear : Cond.code yX4_clear cX4_clear 1 (none) ∈ lw_tbl := tin6 (List.mem_of_getElem? (l := tables_1_6) (i := 219) rfl)
set_option maxRecDepth 100000 in
theorem ki_X4_clear : Cond.initialized yX4_clear.cls ∈ lw_tbl := tin1 (List.mem_of_getElem? (l := tables_1_1) (i := 7) rfl)
set_option maxRecDepth 100000 in
theorem kc_X4_keep : Cond.code yX4_keep cX4_keep 1 (none) ∈ lw_tbl := tin3 (List.mem_of_getElem? (l := tables_1_3) (i := 228) rfl)
set_option maxRecDepth 100000 in
theorem ki_X4_keep : Cond.initialized yX4_keep.cls ∈ lw_tbl := tin1 (List.mem_of_getElem? (l := tables_1_1) (i := 7) rfl)
set_option maxRecDepth 100000 in
theorem kc_X4_prepare : Cond.code yX4_prepare cX4_prepare 2 (none) ∈ lw_tbl := tin3 (List.mem_of_getElem? (l := tables_1_3) (i := 90) rfl)
set_option maxRecDepth 100000 in
theorem ki_X4_prepare : Cond.initialized yX4_prepare.cls ∈ lw_tbl := tin1 (List.mem_of_getElem? (l := tables_1_1) (i := 7) rfl)
set_option maxRecDepth 100000 in
theorem kc_X4_prepared : Cond.code yX4_prepared cX4_prepared 1 (some (.object "ShareVault$State")) ∈ lw_tbl := tin6 (List.mem_of_getElem? (l := tables_1_6) (i := 178) rfl)
set_option maxRecDepth 100000 in
theorem ki_X4_prepared : Cond.initialized yX4_prepared.cls ∈ lw_tbl := tin1 (List.mem_of_getElem? (l := tables_1_1) (i := 7) rfl)
set_option maxRecDepth 100000 in
theorem kc_X4_takeLatest : Cond.code yX4_takeLatest cX4_takeLatest 1 (some (.object "ShareVault$State")) ∈ lw_tbl := tin6 (List.mem_of_getElem? (l := tables_1_6) (i := 207) rfl)
set_option maxRecDepth 100000 in
theorem ki_X4_takeLatest : Cond.initialized yX4_takeLatest.cls ∈ lw_tbl := tin1 (List.mem_of_getElem? (l := tables_1_1) (i := 7) rfl)
set_option maxRecDepth 100000 in
theorem kc_X5_copyFrom : Cond.code yX5_copyFrom cX5_copyFrom 2 (none) ∈ lw_tbl := tin3 (List.mem_of_getElem? (l := tables_1_3) (i := 77) rfl)
set_option maxRecDepth 100000 in
theorem ki_X5_copyFrom : Cond.initialized yX5_copyFrom.cls ∈ lw_tbl := tin1 (List.mem_of_getElem? (l := tables_1_1) (i := 6) rfl)
set_option maxRecDepth 100000 in
theorem kc_X5_dropOldest : Cond.code yX5_dropOldest cX5_dropOldest 1 (none) ∈ lw_tbl := tin4 (List.mem_of_getElem? (l := tables_1_4) (i := 117) rfl)
set_option maxRecDepth 100000 in
theorem ki_X5_dropOldest : Cond.initialized yX5_dropOldest.cls ∈ lw_tbl := tin1 (List.mem_of_getElem? (l := tables_1_1) (i := 6) rfl)
set_option maxRecDepth 100000 in
theorem kc_X5_enter : Cond.code yX5_enter cX5_enter 4 (none) ∈ lw_tbl := tin4 (List.mem_of_getElem? (l := tables_1_4) (i := 113) rfl)
set_option maxRecDepth 100000 in
theorem ki_X5_enter : Cond.initialized yX5_enter.cls ∈ lw_tbl := tin1 (List.mem_of_getElem? (l := tables_1_1) (i := 6) rfl)
set_option maxRecDepth 100000 in
theorem kc_X6_allAgree : Cond.code yX6_allAgree cX6_allAgree 1 (some .boolean) ∈ lw_tbl := tin5 (List.mem_of_getElem? (l := tables_1_5) (i := 65) rfl)
set_option maxRecDepth 100000 in
theorem ki_X6_allAgree : Cond.initialized yX6_allAgree.cls ∈ lw_tbl := tin1 (List.mem_of_getElem? (l := tables_1_1) (i := 3) rfl)
set_option maxRecDepth 100000 in
theorem kc_X6_areEnough : Cond.code yX6_areEnough cX6_areEnough 1 (some .boolean) ∈ lw_tbl := tin2 (List.mem_of_getElem? (l := tables_1_2) (i := 190) rfl)
set_option maxRecDepth 100000 in
theorem ki_X6_areEnough : Cond.initialized yX6_areEnough.cls ∈ lw_tbl := tin1 (List.mem_of_getElem? (l := tables_1_1) (i := 3) rfl)
set_option maxRecDepth 100000 in
theorem kc_X6_copyFrom : Cond.code yX6_copyFrom cX6_copyFrom 2 (none) ∈ lw_tbl := tin3 (List.mem_of_getElem? (l := tables_1_3) (i := 67) rfl)
set_option maxRecDepth 100000 in
theorem ki_X6_copyFrom : Cond.initialized yX6_copyFrom.cls ∈ lw_tbl := tin1 (List.mem_of_getElem? (l := tables_1_1) (i := 3) rfl)
set_option maxRecDepth 100000 in
theorem kc_X6_correctShare : Cond.code yX6_correctShare cX6_correctShare 2 (some .int) ∈ lw_tbl := tin3 (List.mem_of_getElem? (l := tables_1_3) (i := 103) rfl)
set_option maxRecDepth 100000 in
theorem ki_X6_correctShare : Cond.initialized yX6_correctShare.cls ∈ lw_tbl := tin1 (List.mem_of_getElem? (l := tables_1_1) (i := 3) rfl)
set_option maxRecDepth 100000 in
theorem kc_X6_hasHolder : Cond.code yX6_hasHolder cX6_hasHolder 2 (some .boolean) ∈ lw_tbl := tin4 (List.mem_of_getElem? (l := tables_1_4) (i := 48) rfl)
set_option maxRecDepth 100000 in
theorem ki_X6_hasHolder : Cond.initialized yX6_hasHolder.cls ∈ lw_tbl := tin1 (List.mem_of_getElem? (l := tables_1_1) (i := 3) rfl)
set_option maxRecDepth 100000 in
theorem kc_X6_hide : Cond.code yX6_hide cX6_hide 3 (some .int) ∈ lw_tbl := tin4 (List.mem_of_getElem? (l := tables_1_4) (i := 78) rfl)
set_option maxRecDepth 100000 in
theorem ki_X6_hide : Cond.initialized yX6_hide.cls ∈ lw_tbl := tin1 (List.mem_of_getElem? (l := tables_1_1) (i := 3) rfl)
set_option maxRecDepth 100000 in
theorem kc_X6_isOneCurve : Cond.code yX6_isOneCurve cX6_isOneCurve 5 (some .boolean) ∈ lw_tbl := tin3 (List.mem_of_getElem? (l := tables_1_3) (i := 20) rfl)
set_option maxRecDepth 100000 in
theorem ki_X6_isOneCurve : Cond.initialized yX6_isOneCurve.cls ∈ lw_tbl := tin1 (List.mem_of_getElem? (l := tables_1_1) (i := 3) rfl)
set_option maxRecDepth 100000 in
theorem kc_X6_isResidue : Cond.code yX6_isResidue cX6_isResidue 1 (some .boolean) ∈ lw_tbl := tin4 (List.mem_of_getElem? (l := tables_1_4) (i := 4) rfl)
set_option maxRecDepth 100000 in
theorem ki_X6_isResidue : Cond.initialized yX6_isResidue.cls ∈ lw_tbl := tin1 (List.mem_of_getElem? (l := tables_1_1) (i := 3) rfl)
set_option maxRecDepth 100000 in
theorem kc_X6_join : Cond.code yX6_join cX6_join 2 (some .int) ∈ lw_tbl := tin3 (List.mem_of_getElem? (l := tables_1_3) (i := 99) rfl)
set_option maxRecDepth 100000 in
theorem ki_X6_join : Cond.initialized yX6_join.cls ∈ lw_tbl := tin1 (List.mem_of_getElem? (l := tables_1_1) (i := 3) rfl)
set_option maxRecDepth 100000 in
theorem kc_X6_placeOf : Cond.code yX6_placeOf cX6_placeOf 3 (some .int) ∈ lw_tbl := tin3 (List.mem_of_getElem? (l := tables_1_3) (i := 204) rfl)
set_option maxRecDepth 100000 in
theorem ki_X6_placeOf : Cond.initialized yX6_placeOf.cls ∈ lw_tbl := tin1 (List.mem_of_getElem? (l := tables_1_1) (i := 3) rfl)
set_option maxRecDepth 100000 in
theorem kc_X6_positionOf : Cond.code yX6_positionOf cX6_positionOf 1 (some .int) ∈ lw_tbl := tin2 (List.mem_of_getElem? (l := tables_1_2) (i := 219) rfl)
set_option maxRecDepth 100000 in
theorem ki_X6_positionOf : Cond.initialized yX6_positionOf.cls ∈ lw_tbl := tin1 (List.mem_of_getElem? (l := tables_1_1) (i := 3) rfl)
set_option maxRecDepth 100000 in
theorem kc_X6_quotientsOf : Cond.code yX6_quotientsOf cX6_quotientsOf 8 (some .int) ∈ lw_tbl := tin2 (List.mem_of_getElem? (l := tables_1_2) (i := 202) rfl)
set_option maxRecDepth 100000 in
theorem ki_X6_quotientsOf : Cond.initialized yX6_quotientsOf.cls ∈ lw_tbl := tin1 (List.mem_of_getElem? (l := tables_1_1) (i := 3) rfl)
set_option maxRecDepth 100000 in
theorem kc_X6_sealWith : Cond.code yX6_sealWith cX6_sealWith 6 (none) ∈ lw_tbl := tin4 (List.mem_of_getElem? (l := tables_1_4) (i := 8) rfl)
set_option maxRecDepth 100000 in
theorem ki_X6_sealWith : Cond.initialized yX6_sealWith.cls ∈ lw_tbl := tin1 (List.mem_of_getElem? (l := tables_1_1) (i := 3) rfl)
set_option maxRecDepth 100000 in
theorem kc_X6_show : Cond.code yX6_show cX6_show 2 (some .int) ∈ lw_tbl := tin4 (List.mem_of_getElem? (l := tables_1_4) (i := 63) rfl)
set_option maxRecDepth 100000 in
theorem ki_X6_show : Cond.initialized yX6_show.cls ∈ lw_tbl := tin1 (List.mem_of_getElem? (l := tables_1_1) (i := 3) rfl)
set_option maxRecDepth 100000 in
theorem kc_X6_tellTheSecret : Cond.code yX6_tellTheSecret cX6_tellTheSecret 1 (some .boolean) ∈ lw_tbl := tin4 (List.mem_of_getElem? (l := tables_1_4) (i := 99) rfl)
set_option maxRecDepth 100000 in
theorem ki_X6_tellTheSecret : Cond.initialized yX6_tellTheSecret.cls ∈ lw_tbl := tin1 (List.mem_of_getElem? (l := tables_1_1) (i := 3) rfl)
set_option maxRecDepth 100000 in
theorem kc_X6_toldAt : Cond.code yX6_toldAt cX6_toldAt 2 (some .int) ∈ lw_tbl := tin2 (List.mem_of_getElem? (l := tables_1_2) (i := 194) rfl)
set_option maxRecDepth 100000 in
theorem ki_X6_toldAt : Cond.initialized yX6_toldAt.cls ∈ lw_tbl := tin1 (List.mem_of_getElem? (l := tables_1_1) (i := 3) rfl)
set_option maxRecDepth 100000 in
theorem kc_X6_valueOn : Cond.code yX6_valueOn cX6_valueOn 4 (some .int) ∈ lw_tbl := tin3 (List.mem_of_getElem? (l := tables_1_3) (i := 9) rfl)
set_option maxRecDepth 100000 in
theorem ki_X6_valueOn : Cond.initialized yX6_valueOn.cls ∈ lw_tbl := tin1 (List.mem_of_getElem? (l := tables_1_1) (i := 3) rfl)
set_option maxRecDepth 100000 in
theorem kc_X6_valueThrough : Cond.code yX6_valueThrough cX6_valueThrough 5 (some .int) ∈ lw_tbl := tin2 (List.mem_of_getElem? (l := tables_1_2) (i := 198) rfl)
set_option maxRecDepth 100000 in
theorem ki_X6_valueThrough : Cond.initialized yX6_valueThrough.cls ∈ lw_tbl := tin1 (List.mem_of_getElem? (l := tables_1_1) (i := 3) rfl)
set_option maxRecDepth 100000 in
theorem kc_X7_clear : Cond.code yX7_clear cX7_clear 1 (none) ∈ lw_tbl := tin3 (List.mem_of_getElem? (l := tables_1_3) (i := 29) rfl)
set_option maxRecDepth 100000 in
theorem ki_X7_clear : Cond.initialized yX7_clear.cls ∈ lw_tbl := tin1 (List.mem_of_getElem? (l := tables_1_1) (i := 10) rfl)
set_option maxRecDepth 100000 in
theorem kc_X7_put : Cond.code yX7_put cX7_put 2 (none) ∈ lw_tbl := tin3 (List.mem_of_getElem? (l := tables_1_3) (i := 37) rfl)
set_option maxRecDepth 100000 in
theorem ki_X7_put : Cond.initialized yX7_put.cls ∈ lw_tbl := tin1 (List.mem_of_getElem? (l := tables_1_1) (i := 10) rfl)
set_option maxRecDepth 100000 in
theorem kc_X7_putNumber : Cond.code yX7_putNumber cX7_putNumber 5 (none) ∈ lw_tbl := tin3 (List.mem_of_getElem? (l := tables_1_3) (i := 41) rfl)
set_option maxRecDepth 100000 in
theorem ki_X7_putNumber : Cond.initialized yX7_putNumber.cls ∈ lw_tbl := tin1 (List.mem_of_getElem? (l := tables_1_1) (i := 10) rfl)
set_option maxRecDepth 100000 in
theorem kc_X7_startItem : Cond.code yX7_startItem cX7_startItem 2 (none) ∈ lw_tbl := tin3 (List.mem_of_getElem? (l := tables_1_3) (i := 33) rfl)
set_option maxRecDepth 100000 in
theorem ki_X7_startItem : Cond.initialized yX7_startItem.cls ∈ lw_tbl := tin1 (List.mem_of_getElem? (l := tables_1_1) (i := 10) rfl)
set_option maxRecDepth 100000 in
theorem kc_X8_choose : Cond.code yX8_choose cX8_choose 5 (none) ∈ lw_tbl := tin3 (List.mem_of_getElem? (l := tables_1_3) (i := 2) rfl)
set_option maxRecDepth 100000 in
theorem ki_X8_choose : Cond.initialized yX8_choose.cls ∈ lw_tbl := tin1 (List.mem_of_getElem? (l := tables_1_1) (i := 8) rfl)
set_option maxRecDepth 100000 in
theorem kc_X8_countOnCurve : Cond.code yX8_countOnCurve cX8_countOnCurve 5 (some .int) ∈ lw_tbl := tin3 (List.mem_of_getElem? (l := tables_1_3) (i := 6) rfl)
set_option maxRecDepth 100000 in
theorem ki_X8_countOnCurve : Cond.initialized yX8_countOnCurve.cls ∈ lw_tbl := tin1 (List.mem_of_getElem? (l := tables_1_1) (i := 8) rfl)
set_option maxRecDepth 100000 in
theorem kc_X8_eliminate : Cond.code yX8_eliminate cX8_eliminate 6 (none) ∈ lw_tbl := tin2 (List.mem_of_getElem? (l := tables_1_2) (i := 223) rfl)
set_option maxRecDepth 100000 in
theorem ki_X8_eliminate : Cond.initialized yX8_eliminate.cls ∈ lw_tbl := tin1 (List.mem_of_getElem? (l := tables_1_1) (i := 8) rfl)
set_option maxRecDepth 100000 in
theorem kc_X8_fit : Cond.code yX8_fit cX8_fit 5 (none) ∈ lw_tbl := tin2 (List.mem_of_getElem? (l := tables_1_2) (i := 212) rfl)
set_option maxRecDepth 100000 in
theorem ki_X8_fit : Cond.initialized yX8_fit.cls ∈ lw_tbl := tin1 (List.mem_of_getElem? (l := tables_1_1) (i := 8) rfl)
set_option maxRecDepth 100000 in
theorem kc_X8_mostInSets : Cond.code yX8_mostInSets cX8_mostInSets 5 (some .int) ∈ lw_tbl := tin3 (List.mem_of_getElem? (l := tables_1_3) (i := 16) rfl)
set_option maxRecDepth 100000 in
theorem ki_X8_mostInSets : Cond.initialized yX8_mostInSets.cls ∈ lw_tbl := tin1 (List.mem_of_getElem? (l := tables_1_1) (i := 8) rfl)
set_option maxRecDepth 100000 in
theorem kc_X8_mostOnCurves : Cond.code yX8_mostOnCurves cX8_mostOnCurves 4 (some .int) ∈ lw_tbl := tin2 (List.mem_of_getElem? (l := tables_1_2) (i := 232) rfl)
set_option maxRecDepth 100000 in
theorem ki_X8_mostOnCurves : Cond.initialized yX8_mostOnCurves.cls ∈ lw_tbl := tin1 (List.mem_of_getElem? (l := tables_1_1) (i := 8) rfl)
set_option maxRecDepth 100000 in
theorem kc_X8_secretOf : Cond.code yX8_secretOf cX8_secretOf 2 (some .int) ∈ lw_tbl := tin2 (List.mem_of_getElem? (l := tables_1_2) (i := 208) rfl)
set_option maxRecDepth 100000 in
theorem ki_X8_secretOf : Cond.initialized yX8_secretOf.cls ∈ lw_tbl := tin1 (List.mem_of_getElem? (l := tables_1_1) (i := 8) rfl)
set_option maxRecDepth 100000 in
theorem kc_X8_setEquation : Cond.code yX8_setEquation cX8_setEquation 7 (none) ∈ lw_tbl := tin2 (List.mem_of_getElem? (l := tables_1_2) (i := 216) rfl)
set_option maxRecDepth 100000 in
theorem ki_X8_setEquation : Cond.initialized yX8_setEquation.cls ∈ lw_tbl := tin1 (List.mem_of_getElem? (l := tables_1_1) (i := 8) rfl)
set_option maxRecDepth 100000 in
theorem kc_X8_subtract : Cond.code yX8_subtract cX8_subtract 6 (none) ∈ lw_tbl := tin2 (List.mem_of_getElem? (l := tables_1_2) (i := 227) rfl)
set_option maxRecDepth 100000 in
theorem ki_X8_subtract : Cond.initialized yX8_subtract.cls ∈ lw_tbl := tin1 (List.mem_of_getElem? (l := tables_1_1) (i := 8) rfl)
set_option maxRecDepth 100000 in
theorem kc_X9_copyFrom : Cond.code yX9_copyFrom cX9_copyFrom 2 (none) ∈ lw_tbl := tin3 (List.mem_of_getElem? (l := tables_1_3) (i := 63) rfl)
set_option maxRecDepth 100000 in
theorem ki_X9_copyFrom : Cond.initialized yX9_copyFrom.cls ∈ lw_tbl := tin1 (List.mem_of_getElem? (l := tables_1_1) (i := 2) rfl)
set_option maxRecDepth 100000 in
theorem kc_X9_detailOf : Cond.code yX9_detailOf cX9_detailOf 3 (some .int) ∈ lw_tbl := tin3 (List.mem_of_getElem? (l := tables_1_3) (i := 200) rfl)
set_option maxRecDepth 100000 in
theorem ki_X9_detailOf : Cond.initialized yX9_detailOf.cls ∈ lw_tbl := tin1 (List.mem_of_getElem? (l := tables_1_1) (i := 2) rfl)
set_option maxRecDepth 100000 in
theorem kc_X9_enterAlarms : Cond.code yX9_enterAlarms cX9_enterAlarms 3 (none) ∈ lw_tbl := tin4 (List.mem_of_getElem? (l := tables_1_4) (i := 198) rfl)
set_option maxRecDepth 100000 in
theorem ki_X9_enterAlarms : Cond.initialized yX9_enterAlarms.cls ∈ lw_tbl := tin1 (List.mem_of_getElem? (l := tables_1_1) (i := 2) rfl)
set_option maxRecDepth 100000 in
theorem kc_X9_tryClose : Cond.code yX9_tryClose cX9_tryClose 1 (some .int) ∈ lw_tbl := tin4 (List.mem_of_getElem? (l := tables_1_4) (i := 128) rfl)
set_option maxRecDepth 100000 in
theorem ki_X9_tryClose : Cond.initialized yX9_tryClose.cls ∈ lw_tbl := tin1 (List.mem_of_getElem? (l := tables_1_1) (i := 2) rfl)
set_option maxRecDepth 100000 in
theorem kc_X9_tryCommand : Cond.code yX9_tryCommand cX9_tryCommand 3 (some .int) ∈ lw_tbl := tin6 (List.mem_of_getElem? (l := tables_1_6) (i := 151) rfl)
set_option maxRecDepth 100000 in
theorem ki_X9_tryCommand : Cond.initialized yX9_tryCommand.cls ∈ lw_tbl := tin1 (List.mem_of_getElem? (l := tables_1_1) (i := 2) rfl)
set_option maxRecDepth 100000 in
theorem kc_X9_tryGuard : Cond.code yX9_tryGuard cX9_tryGuard 4 (some .int) ∈ lw_tbl := tin4 (List.mem_of_getElem? (l := tables_1_4) (i := 139) rfl)
set_option maxRecDepth 100000 in
theorem ki_X9_tryGuard : Cond.initialized yX9_tryGuard.cls ∈ lw_tbl := tin1 (List.mem_of_getElem? (l := tables_1_1) (i := 2) rfl)
set_option maxRecDepth 100000 in
theorem kc_X9_tryHolder : Cond.code yX9_tryHolder cX9_tryHolder 1 (some .int) ∈ lw_tbl := tin3 (List.mem_of_getElem? (l := tables_1_3) (i := 95) rfl)
set_option maxRecDepth 100000 in
theorem ki_X9_tryHolder : Cond.initialized yX9_tryHolder.cls ∈ lw_tbl := tin1 (List.mem_of_getElem? (l := tables_1_1) (i := 2) rfl)
set_option maxRecDepth 100000 in
theorem kc_X9_tryHours : Cond.code yX9_tryHours cX9_tryHours 4 (some .int) ∈ lw_tbl := tin4 (List.mem_of_getElem? (l := tables_1_4) (i := 184) rfl)
set_option maxRecDepth 100000 in
theorem ki_X9_tryHours : Cond.initialized yX9_tryHours.cls ∈ lw_tbl := tin1 (List.mem_of_getElem? (l := tables_1_1) (i := 2) rfl)
set_option maxRecDepth 100000 in
theorem kc_X9_tryHum : Cond.code yX9_tryHum cX9_tryHum 3 (some .int) ∈ lw_tbl := tin4 (List.mem_of_getElem? (l := tables_1_4) (i := 172) rfl)
set_option maxRecDepth 100000 in
theorem ki_X9_tryHum : Cond.initialized yX9_tryHum.cls ∈ lw_tbl := tin1 (List.mem_of_getElem? (l := tables_1_1) (i := 2) rfl)
set_option maxRecDepth 100000 in
theorem kc_X9_tryOpen : Cond.code yX9_tryOpen cX9_tryOpen 3 (some .int) ∈ lw_tbl := tin4 (List.mem_of_getElem? (l := tables_1_4) (i := 89) rfl)
set_option maxRecDepth 100000 in
theorem ki_X9_tryOpen : Cond.initialized yX9_tryOpen.cls ∈ lw_tbl := tin1 (List.mem_of_getElem? (l := tables_1_1) (i := 2) rfl)
set_option maxRecDepth 100000 in
theorem kc_X9_tryPresent : Cond.code yX9_tryPresent cX9_tryPresent 2 (some .int) ∈ lw_tbl := tin4 (List.mem_of_getElem? (l := tables_1_4) (i := 59) rfl)
set_option maxRecDepth 100000 in
theorem ki_X9_tryPresent : Cond.initialized yX9_tryPresent.cls ∈ lw_tbl := tin1 (List.mem_of_getElem? (l := tables_1_1) (i := 2) rfl)
set_option maxRecDepth 100000 in
theorem kc_X9_trySeal : Cond.code yX9_trySeal cX9_trySeal 5 (some .int) ∈ lw_tbl := tin4 (List.mem_of_getElem? (l := tables_1_4) (i := 1) rfl)
set_option maxRecDepth 100000 in
theorem ki_X9_trySeal : Cond.initialized yX9_trySeal.cls ∈ lw_tbl := tin1 (List.mem_of_getElem? (l := tables_1_1) (i := 2) rfl)
set_option maxRecDepth 100000 in
theorem kc_X9_tryShare : Cond.code yX9_tryShare cX9_tryShare 3 (some .int) ∈ lw_tbl := tin4 (List.mem_of_getElem? (l := tables_1_4) (i := 44) rfl)
set_option maxRecDepth 100000 in
theorem ki_X9_tryShare : Cond.initialized yX9_tryShare.cls ∈ lw_tbl := tin1 (List.mem_of_getElem? (l := tables_1_1) (i := 2) rfl)
set_option maxRecDepth 100000 in
theorem kc_X9_tryTakeBack : Cond.code yX9_tryTakeBack cX9_tryTakeBack 3 (some .int) ∈ lw_tbl := tin4 (List.mem_of_getElem? (l := tables_1_4) (i := 74) rfl)
set_option maxRecDepth 100000 in
theorem ki_X9_tryTakeBack : Cond.initialized yX9_tryTakeBack.cls ∈ lw_tbl := tin1 (List.mem_of_getElem? (l := tables_1_1) (i := 2) rfl)
set_option maxRecDepth 100000 in
theorem kc_X9_tryTurn : Cond.code yX9_tryTurn cX9_tryTurn 2 (some .int) ∈ lw_tbl := tin4 (List.mem_of_getElem? (l := tables_1_4) (i := 157) rfl)
set_option maxRecDepth 100000 in
theorem ki_X9_tryTurn : Cond.initialized yX9_tryTurn.cls ∈ lw_tbl := tin1 (List.mem_of_getElem? (l := tables_1_1) (i := 2) rfl)
set_option maxRecDepth 100000 in
theorem kc_X9_verdictOnAttempt : Cond.code yX9_verdictOnAttempt cX9_verdictOnAttempt 1 (some .int) ∈ lw_tbl := tin4 (List.mem_of_getElem? (l := tables_1_4) (i := 93) rfl)
set_option maxRecDepth 100000 in
theorem ki_X9_verdictOnAttempt : Cond.initialized yX9_verdictOnAttempt.cls ∈ lw_tbl := tin1 (List.mem_of_getElem? (l := tables_1_1) (i := 2) rfl)
set_option maxRecDepth 100000 in
theorem kc_X9_verdictOnOutcome : Cond.code yX9_verdictOnOutcome cX9_verdictOnOutcome 2 (some .int) ∈ lw_tbl := tin6 (List.mem_of_getElem? (l := tables_1_6) (i := 169) rfl)
set_option maxRecDepth 100000 in
theorem ki_X9_verdictOnOutcome : Cond.initialized yX9_verdictOnOutcome.cls ∈ lw_tbl := tin1 (List.mem_of_getElem? (l := tables_1_1) (i := 2) rfl)
set_option maxRecDepth 100000 in
theorem kc_X12_addGuard : Cond.code yX12_addGuard cX12_addGuard 4 (some .int) ∈ lw_tbl := tin7 (List.mem_of_getElem? (l := tables_1_7) (i := 189) rfl)
set_option maxRecDepth 100000 in
theorem ki_X12_addGuard : Cond.initialized yX12_addGuard.cls ∈ lw_tbl := tin1 (List.mem_of_getElem? (l := tables_1_1) (i := 11) rfl)
set_option maxRecDepth 100000 in
theorem kc_X12_addHolder : Cond.code yX12_addHolder cX12_addHolder 1 (some .int) ∈ lw_tbl := tin7 (List.mem_of_getElem? (l := tables_1_7) (i := 63) rfl)
set_option maxRecDepth 100000 in
theorem ki_X12_addHolder : Cond.initialized yX12_addHolder.cls ∈ lw_tbl := tin1 (List.mem_of_getElem? (l := tables_1_1) (i := 11) rfl)
set_option maxRecDepth 100000 in
theorem kc_X12_adds : Cond.code yX12_adds cX12_adds 2 (some .int) ∈ lw_tbl := tin7 (List.mem_of_getElem? (l := tables_1_7) (i := 71) rfl)
set_option maxRecDepth 100000 in
theorem ki_X12_adds : Cond.initialized yX12_adds.cls ∈ lw_tbl := tin1 (List.mem_of_getElem? (l := tables_1_1) (i := 11) rfl)
set_option maxRecDepth 100000 in
theorem kc_X12_alarmCount : Cond.code yX12_alarmCount cX12_alarmCount 1 (some .int) ∈ lw_tbl := tin8 (List.mem_of_getElem? (l := tables_1_8) (i := 139) rfl)
set_option maxRecDepth 100000 in
theorem ki_X12_alarmCount : Cond.initialized yX12_alarmCount.cls ∈ lw_tbl := tin1 (List.mem_of_getElem? (l := tables_1_1) (i := 11) rfl)
set_option maxRecDepth 100000 in
theorem kc_X12_alarmShare : Cond.code yX12_alarmShare cX12_alarmShare 2 (some .float) ∈ lw_tbl := tin8 (List.mem_of_getElem? (l := tables_1_8) (i := 172) rfl)
set_option maxRecDepth 100000 in
theorem ki_X12_alarmShare : Cond.initialized yX12_alarmShare.cls ∈ lw_tbl := tin1 (List.mem_of_getElem? (l := tables_1_1) (i := 11) rfl)
set_option maxRecDepth 100000 in
theorem kc_X12_alarmsIn : Cond.code yX12_alarmsIn cX12_alarmsIn 4 (some .int) ∈ lw_tbl := tin8 (List.mem_of_getElem? (l := tables_1_8) (i := 123) rfl)
set_option maxRecDepth 100000 in
theorem ki_X12_alarmsIn : Cond.initialized yX12_alarmsIn.cls ∈ lw_tbl := tin1 (List.mem_of_getElem? (l := tables_1_1) (i := 11) rfl)
set_option maxRecDepth 100000 in
theorem kc_X12_alarmsOf : Cond.code yX12_alarmsOf cX12_alarmsOf 2 (some .int) ∈ lw_tbl := tin8 (List.mem_of_getElem? (l := tables_1_8) (i := 135) rfl)
set_option maxRecDepth 100000 in
theorem ki_X12_alarmsOf : Cond.initialized yX12_alarmsOf.cls ∈ lw_tbl := tin1 (List.mem_of_getElem? (l := tables_1_1) (i := 11) rfl)
set_option maxRecDepth 100000 in
theorem kc_X12_areEnough : Cond.code yX12_areEnough cX12_areEnough 1 (some .boolean) ∈ lw_tbl := tin8 (List.mem_of_getElem? (l := tables_1_8) (i := 40) rfl)
set_option maxRecDepth 100000 in
theorem ki_X12_areEnough : Cond.initialized yX12_areEnough.cls ∈ lw_tbl := tin1 (List.mem_of_getElem? (l := tables_1_1) (i := 11) rfl)
set_option maxRecDepth 100000 in
theorem kc_X12_back : Cond.code yX12_back cX12_back 2 (none) ∈ lw_tbl := tin8 (List.mem_of_getElem? (l := tables_1_8) (i := 114) rfl)
set_option maxRecDepth 100000 in
theorem ki_X12_back : Cond.initialized yX12_back.cls ∈ lw_tbl := tin1 (List.mem_of_getElem? (l := tables_1_1) (i := 11) rfl)
set_option maxRecDepth 100000 in
theorem kc_X12_changed : Cond.code yX12_changed cX12_changed 3 (some .int) ∈ lw_tbl := tin7 (List.mem_of_getElem? (l := tables_1_7) (i := 91) rfl)
set_option maxRecDepth 100000 in
theorem ki_X12_changed : Cond.initialized yX12_changed.cls ∈ lw_tbl := tin1 (List.mem_of_getElem? (l := tables_1_1) (i := 11) rfl)
set_option maxRecDepth 100000 in
theorem kc_X12_clears : Cond.code yX12_clears cX12_clears 2 (none) ∈ lw_tbl := tin7 (List.mem_of_getElem? (l := tables_1_7) (i := 110) rfl)
set_option maxRecDepth 100000 in
theorem ki_X12_clears : Cond.initialized yX12_clears.cls ∈ lw_tbl := tin1 (List.mem_of_getElem? (l := tables_1_1) (i := 11) rfl)
set_option maxRecDepth 100000 in
theorem kc_X12_closeVault : Cond.code yX12_closeVault cX12_closeVault 1 (some .int) ∈ lw_tbl := tin7 (List.mem_of_getElem? (l := tables_1_7) (i := 181) rfl)
set_option maxRecDepth 100000 in
theorem ki_X12_closeVault : Cond.initialized yX12_closeVault.cls ∈ lw_tbl := tin1 (List.mem_of_getElem? (l := tables_1_1) (i := 11) rfl)
set_option maxRecDepth 100000 in
theorem kc_X12_closes : Cond.code yX12_closes cX12_closes 2 (some .int) ∈ lw_tbl := tin7 (List.mem_of_getElem? (l := tables_1_7) (i := 185) rfl)
set_option maxRecDepth 100000 in
theorem ki_X12_closes : Cond.initialized yX12_closes.cls ∈ lw_tbl := tin1 (List.mem_of_getElem? (l := tables_1_1) (i := 11) rfl)
set_option maxRecDepth 100000 in
theorem kc_X12_curve : Cond.code yX12_curve cX12_curve 3 (some .int) ∈ lw_tbl := tin7 (List.mem_of_getElem? (l := tables_1_7) (i := 79) rfl)
set_option maxRecDepth 100000 in
theorem ki_X12_curve : Cond.initialized yX12_curve.cls ∈ lw_tbl := tin1 (List.mem_of_getElem? (l := tables_1_1) (i := 11) rfl)
set_option maxRecDepth 100000 in
theorem kc_X12_doAgree : Cond.code yX12_doAgree cX12_doAgree 1 (some .boolean) ∈ lw_tbl := tin8 (List.mem_of_getElem? (l := tables_1_8) (i := 53) rfl)
set_option maxRecDepth 100000 in
theorem ki_X12_doAgree : Cond.initialized yX12_doAgree.cls ∈ lw_tbl := tin1 (List.mem_of_getElem? (l := tables_1_1) (i := 11) rfl)
set_option maxRecDepth 100000 in
theorem kc_X12_does : Cond.code yX12_does cX12_does 4 (some .int) ∈ lw_tbl := tin9 (List.mem_of_getElem? (l := tables_1_9) (i := 3) rfl)
set_option maxRecDepth 100000 in
theorem ki_X12_does : Cond.initialized yX12_does.cls ∈ lw_tbl := tin1 (List.mem_of_getElem? (l := tables_1_1) (i := 11) rfl)
set_option maxRecDepth 100000 in
theorem kc_X12_done : Cond.code yX12_done cX12_done 2 (some .int) ∈ lw_tbl := tin7 (List.mem_of_getElem? (l := tables_1_7) (i := 83) rfl)
set_option maxRecDepth 100000 in
theorem ki_X12_done : Cond.initialized yX12_done.cls ∈ lw_tbl := tin1 (List.mem_of_getElem? (l := tables_1_1) (i := 11) rfl)
set_option maxRecDepth 100000 in
theorem kc_X12_ends : Cond.code yX12_ends cX12_ends 3 (some .int) ∈ lw_tbl := tin7 (List.mem_of_getElem? (l := tables_1_7) (i := 87) rfl)
set_option maxRecDepth 100000 in
theorem ki_X12_ends : Cond.initialized yX12_ends.cls ∈ lw_tbl := tin1 (List.mem_of_getElem? (l := tables_1_1) (i := 11) rfl)
set_option maxRecDepth 100000 in
theorem kc_X12_entry : Cond.code yX12_entry cX12_entry 3 (some .int) ∈ lw_tbl := tin8 (List.mem_of_getElem? (l := tables_1_8) (i := 155) rfl)
set_option maxRecDepth 100000 in
theorem ki_X12_entry : Cond.initialized yX12_entry.cls ∈ lw_tbl := tin1 (List.mem_of_getElem? (l := tables_1_1) (i := 11) rfl)
set_option maxRecDepth 100000 in
theorem kc_X12_errorPosition : Cond.code yX12_errorPosition cX12_errorPosition 1 (some .int) ∈ lw_tbl := tin9 (List.mem_of_getElem? (l := tables_1_9) (i := 11) rfl)
set_option maxRecDepth 100000 in
theorem ki_X12_errorPosition : Cond.initialized yX12_errorPosition.cls ∈ lw_tbl := tin1 (List.mem_of_getElem? (l := tables_1_1) (i := 11) rfl)
set_option maxRecDepth 100000 in
theorem kc_X12_failedAttempts : Cond.code yX12_failedAttempts cX12_failedAttempts 1 (some .int) ∈ lw_tbl := tin8 (List.mem_of_getElem? (l := tables_1_8) (i := 78) rfl)
set_option maxRecDepth 100000 in
theorem ki_X12_failedAttempts : Cond.initialized yX12_failedAttempts.cls ∈ lw_tbl := tin1 (List.mem_of_getElem? (l := tables_1_1) (i := 11) rfl)
set_option maxRecDepth 100000 in
theorem kc_X12_fails : Cond.code yX12_fails cX12_fails 2 (some .int) ∈ lw_tbl := tin7 (List.mem_of_getElem? (l := tables_1_7) (i := 95) rfl)
set_option maxRecDepth 100000 in
theorem ki_X12_fails : Cond.initialized yX12_fails.cls ∈ lw_tbl := tin1 (List.mem_of_getElem? (l := tables_1_1) (i := 11) rfl)
set_option maxRecDepth 100000 in
theorem kc_X12_feed : Cond.code yX12_feed cX12_feed 2 (some .int) ∈ lw_tbl := tin8 (List.mem_of_getElem? (l := tables_1_8) (i := 192) rfl)
set_option maxRecDepth 100000 in
theorem ki_X12_feed : Cond.initialized yX12_feed.cls ∈ lw_tbl := tin1 (List.mem_of_getElem? (l := tables_1_1) (i := 11) rfl)
set_option maxRecDepth 100000 in
theorem kc_X12_guard : Cond.code yX12_guard cX12_guard 3 (some .int) ∈ lw_tbl := tin7 (List.mem_of_getElem? (l := tables_1_7) (i := 158) rfl)
set_option maxRecDepth 100000 in
theorem ki_X12_guard : Cond.initialized yX12_guard.cls ∈ lw_tbl := tin1 (List.mem_of_getElem? (l := tables_1_1) (i := 11) rfl)
set_option maxRecDepth 100000 in
theorem kc_X12_guardCount : Cond.code yX12_guardCount cX12_guardCount 1 (some .int) ∈ lw_tbl := tin8 (List.mem_of_getElem? (l := tables_1_8) (i := 82) rfl)
set_option maxRecDepth 100000 in
theorem ki_X12_guardCount : Cond.initialized yX12_guardCount.cls ∈ lw_tbl := tin1 (List.mem_of_getElem? (l := tables_1_1) (i := 11) rfl)
set_option maxRecDepth 100000 in
theorem kc_X12_guards : Cond.code yX12_guards cX12_guards 5 (some .int) ∈ lw_tbl := tin7 (List.mem_of_getElem? (l := tables_1_7) (i := 193) rfl)
set_option maxRecDepth 100000 in
theorem ki_X12_guards : Cond.initialized yX12_guards.cls ∈ lw_tbl := tin1 (List.mem_of_getElem? (l := tables_1_1) (i := 11) rfl)
set_option maxRecDepth 100000 in
theorem kc_X12_here : Cond.code yX12_here cX12_here 2 (some .int) ∈ lw_tbl := tin8 (List.mem_of_getElem? (l := tables_1_8) (i := 204) rfl)
set_option maxRecDepth 100000 in
theorem ki_X12_here : Cond.initialized yX12_here.cls ∈ lw_tbl := tin1 (List.mem_of_getElem? (l := tables_1_1) (i := 11) rfl)
set_option maxRecDepth 100000 in
theorem kc_X12_holderCount : Cond.code yX12_holderCount cX12_holderCount 1 (some .int) ∈ lw_tbl := tin8 (List.mem_of_getElem? (l := tables_1_8) (i := 0) rfl)
set_option maxRecDepth 100000 in
theorem ki_X12_holderCount : Cond.initialized yX12_holderCount.cls ∈ lw_tbl := tin1 (List.mem_of_getElem? (l := tables_1_1) (i := 11) rfl)
set_option maxRecDepth 100000 in
theorem kc_X12_hour : Cond.code yX12_hour cX12_hour 1 (some .int) ∈ lw_tbl := tin7 (List.mem_of_getElem? (l := tables_1_7) (i := 236) rfl)
set_option maxRecDepth 100000 in
theorem ki_X12_hour : Cond.initialized yX12_hour.cls ∈ lw_tbl := tin1 (List.mem_of_getElem? (l := tables_1_1) (i := 11) rfl)
set_option maxRecDepth 100000 in
theorem kc_X12_hoursUntilVisit : Cond.code yX12_hoursUntilVisit cX12_hoursUntilVisit 4 (some .int) ∈ lw_tbl := tin8 (List.mem_of_getElem? (l := tables_1_8) (i := 106) rfl)
set_option maxRecDepth 100000 in
theorem ki_X12_hoursUntilVisit : Cond.initialized yX12_hoursUntilVisit.cls ∈ lw_tbl := tin1 (List.mem_of_getElem? (l := tables_1_1) (i := 11) rfl)
set_option maxRecDepth 100000 in
theorem kc_X12_hoursUntilVisitByRemainders : Cond.code yX12_hoursUntilVisitByRemainders cX12_hoursUntilVisitByRemainders 2 (some .int) ∈ lw_tbl := tin8 (List.mem_of_getElem? (l := tables_1_8) (i := 118) rfl)
set_option maxRecDepth 100000 in
theorem ki_X12_hoursUntilVisitByRemainders : Cond.initialized yX12_hoursUntilVisitByRemainders.cls ∈ lw_tbl := tin1 (List.mem_of_getElem? (l := tables_1_1) (i := 11) rfl)
set_option maxRecDepth 100000 in
theorem kc_X12_hum : Cond.code yX12_hum cX12_hum 3 (some .int) ∈ lw_tbl := tin7 (List.mem_of_getElem? (l := tables_1_7) (i := 212) rfl)
set_option maxRecDepth 100000 in
theorem ki_X12_hum : Cond.initialized yX12_hum.cls ∈ lw_tbl := tin1 (List.mem_of_getElem? (l := tables_1_1) (i := 11) rfl)
set_option maxRecDepth 100000 in
theorem kc_X12_hums : Cond.code yX12_hums cX12_hums 4 (some .int) ∈ lw_tbl := tin7 (List.mem_of_getElem? (l := tables_1_7) (i := 216) rfl)
set_option maxRecDepth 100000 in
theorem ki_X12_hums : Cond.initialized yX12_hums.cls ∈ lw_tbl := tin1 (List.mem_of_getElem? (l := tables_1_1) (i := 11) rfl)
set_option maxRecDepth 100000 in
theorem kc_X12_in : Cond.code yX12_in cX12_in 3 (some .boolean) ∈ lw_tbl := tin7 (List.mem_of_getElem? (l := tables_1_7) (i := 106) rfl)
set_option maxRecDepth 100000 in
theorem ki_X12_in : Cond.initialized yX12_in.cls ∈ lw_tbl := tin1 (List.mem_of_getElem? (l := tables_1_1) (i := 11) rfl)
set_option maxRecDepth 100000 in
theorem kc_X12_inverse : Cond.code yX12_inverse cX12_inverse 2 (some .int) ∈ lw_tbl := tin7 (List.mem_of_getElem? (l := tables_1_7) (i := 173) rfl)
set_option maxRecDepth 100000 in
theorem ki_X12_inverse : Cond.initialized yX12_inverse.cls ∈ lw_tbl := tin1 (List.mem_of_getElem? (l := tables_1_1) (i := 11) rfl)
set_option maxRecDepth 100000 in
theorem kc_X12_isAhead : Cond.code yX12_isAhead cX12_isAhead 3 (some .boolean) ∈ lw_tbl := tin8 (List.mem_of_getElem? (l := tables_1_8) (i := 131) rfl)
set_option maxRecDepth 100000 in
theorem ki_X12_isAhead : Cond.initialized yX12_isAhead.cls ∈ lw_tbl := tin1 (List.mem_of_getElem? (l := tables_1_1) (i := 11) rfl)
set_option maxRecDepth 100000 in
theorem kc_X12_isAsked : Cond.code yX12_isAsked cX12_isAsked 2 (some .boolean) ∈ lw_tbl := tin8 (List.mem_of_getElem? (l := tables_1_8) (i := 98) rfl)
set_option maxRecDepth 100000 in
theorem ki_X12_isAsked : Cond.initialized yX12_isAsked.cls ∈ lw_tbl := tin1 (List.mem_of_getElem? (l := tables_1_1) (i := 11) rfl)
set_option maxRecDepth 100000 in
theorem kc_X12_isConsistent : Cond.code yX12_isConsistent cX12_isConsistent 1 (some .boolean) ∈ lw_tbl := tin8 (List.mem_of_getElem? (l := tables_1_8) (i := 176) rfl)
set_option maxRecDepth 100000 in
theorem ki_X12_isConsistent : Cond.initialized yX12_isConsistent.cls ∈ lw_tbl := tin1 (List.mem_of_getElem? (l := tables_1_1) (i := 11) rfl)
set_option maxRecDepth 100000 in
theorem kc_X12_isCorrect : Cond.code yX12_isCorrect cX12_isCorrect 2 (some .boolean) ∈ lw_tbl := tin8 (List.mem_of_getElem? (l := tables_1_8) (i := 20) rfl)
set_option maxRecDepth 100000 in
theorem ki_X12_isCorrect : Cond.initialized yX12_isCorrect.cls ∈ lw_tbl := tin1 (List.mem_of_getElem? (l := tables_1_1) (i := 11) rfl)
set_option maxRecDepth 100000 in
theorem kc_X12_isForwards : Cond.code yX12_isForwards cX12_isForwards 2 (some .boolean) ∈ lw_tbl := tin8 (List.mem_of_getElem? (l := tables_1_8) (i := 90) rfl)
set_option maxRecDepth 100000 in
theorem ki_X12_isForwards : Cond.initialized yX12_isForwards.cls ∈ lw_tbl := tin1 (List.mem_of_getElem? (l := tables_1_1) (i := 11) rfl)
set_option maxRecDepth 100000 in
theorem kc_X12_isGuard : Cond.code yX12_isGuard cX12_isGuard 2 (some .boolean) ∈ lw_tbl := tin7 (List.mem_of_getElem? (l := tables_1_7) (i := 208) rfl)
set_option maxRecDepth 100000 in
theorem ki_X12_isGuard : Cond.initialized yX12_isGuard.cls ∈ lw_tbl := tin1 (List.mem_of_getElem? (l := tables_1_1) (i := 11) rfl)
set_option maxRecDepth 100000 in
theorem kc_X12_isGuarded : Cond.code yX12_isGuarded cX12_isGuarded 2 (some .boolean) ∈ lw_tbl := tin8 (List.mem_of_getElem? (l := tables_1_8) (i := 102) rfl)
set_option maxRecDepth 100000 in
theorem ki_X12_isGuarded : Cond.initialized yX12_isGuarded.cls ∈ lw_tbl := tin1 (List.mem_of_getElem? (l := tables_1_1) (i := 11) rfl)
set_option maxRecDepth 100000 in
theorem kc_X12_isHolder : Cond.code yX12_isHolder cX12_isHolder 2 (some .boolean) ∈ lw_tbl := tin7 (List.mem_of_getElem? (l := tables_1_7) (i := 122) rfl)
set_option maxRecDepth 100000 in
theorem ki_X12_isHolder : Cond.initialized yX12_isHolder.cls ∈ lw_tbl := tin1 (List.mem_of_getElem? (l := tables_1_1) (i := 11) rfl)
set_option maxRecDepth 100000 in
theorem kc_X12_isIn : Cond.code yX12_isIn cX12_isIn 3 (some .boolean) ∈ lw_tbl := tin7 (List.mem_of_getElem? (l := tables_1_7) (i := 154) rfl)
set_option maxRecDepth 100000 in
theorem ki_X12_isIn : Cond.initialized yX12_isIn.cls ∈ lw_tbl := tin1 (List.mem_of_getElem? (l := tables_1_1) (i := 11) rfl)
set_option maxRecDepth 100000 in
theorem kc_X12_isNear : Cond.code yX12_isNear cX12_isNear 2 (some .boolean) ∈ lw_tbl := tin7 (List.mem_of_getElem? (l := tables_1_7) (i := 232) rfl)
set_option maxRecDepth 100000 in
theorem ki_X12_isNear : Cond.initialized yX12_isNear.cls ∈ lw_tbl := tin1 (List.mem_of_getElem? (l := tables_1_1) (i := 11) rfl)
set_option maxRecDepth 100000 in
theorem kc_X12_isOpen : Cond.code yX12_isOpen cX12_isOpen 1 (some .boolean) ∈ lw_tbl := tin8 (List.mem_of_getElem? (l := tables_1_8) (i := 70) rfl)
set_option maxRecDepth 100000 in
theorem ki_X12_isOpen : Cond.initialized yX12_isOpen.cls ∈ lw_tbl := tin1 (List.mem_of_getElem? (l := tables_1_1) (i := 11) rfl)
set_option maxRecDepth 100000 in
theorem kc_X12_isPresented : Cond.code yX12_isPresented cX12_isPresented 2 (some .boolean) ∈ lw_tbl := tin8 (List.mem_of_getElem? (l := tables_1_8) (i := 24) rfl)
set_option maxRecDepth 100000 in
theorem ki_X12_isPresented : Cond.initialized yX12_isPresented.cls ∈ lw_tbl := tin1 (List.mem_of_getElem? (l := tables_1_1) (i := 11) rfl)
set_option maxRecDepth 100000 in
theorem kc_X12_isSealed : Cond.code yX12_isSealed cX12_isSealed 1 (some .boolean) ∈ lw_tbl := tin8 (List.mem_of_getElem? (l := tables_1_8) (i := 4) rfl)
set_option maxRecDepth 100000 in
theorem ki_X12_isSealed : Cond.initialized yX12_isSealed.cls ∈ lw_tbl := tin1 (List.mem_of_getElem? (l := tables_1_1) (i := 11) rfl)
set_option maxRecDepth 100000 in
theorem kc_X12_isShare : Cond.code yX12_isShare cX12_isShare 2 (some .boolean) ∈ lw_tbl := tin8 (List.mem_of_getElem? (l := tables_1_8) (i := 16) rfl)
set_option maxRecDepth 100000 in
theorem ki_X12_isShare : Cond.initialized yX12_isShare.cls ∈ lw_tbl := tin1 (List.mem_of_getElem? (l := tables_1_1) (i := 11) rfl)
set_option maxRecDepth 100000 in
theorem kc_X12_isZone : Cond.code yX12_isZone cX12_isZone 1 (some .boolean) ∈ lw_tbl := tin7 (List.mem_of_getElem? (l := tables_1_7) (i := 196) rfl)
set_option maxRecDepth 100000 in
theorem ki_X12_isZone : Cond.initialized yX12_isZone.cls ∈ lw_tbl := tin1 (List.mem_of_getElem? (l := tables_1_1) (i := 11) rfl)
set_option maxRecDepth 100000 in
theorem kc_X12_lockedHours : Cond.code yX12_lockedHours cX12_lockedHours 1 (some .int) ∈ lw_tbl := tin8 (List.mem_of_getElem? (l := tables_1_8) (i := 74) rfl)
set_option maxRecDepth 100000 in
theorem ki_X12_lockedHours : Cond.initialized yX12_lockedHours.cls ∈ lw_tbl := tin1 (List.mem_of_getElem? (l := tables_1_1) (i := 11) rfl)
set_option maxRecDepth 100000 in
theorem kc_X12_logCount : Cond.code yX12_logCount cX12_logCount 1 (some .int) ∈ lw_tbl := tin8 (List.mem_of_getElem? (l := tables_1_8) (i := 147) rfl)
set_option maxRecDepth 100000 in
theorem ki_X12_logCount : Cond.initialized yX12_logCount.cls ∈ lw_tbl := tin1 (List.mem_of_getElem? (l := tables_1_1) (i := 11) rfl)
set_option maxRecDepth 100000 in
theorem kc_X12_logDetail : Cond.code yX12_logDetail cX12_logDetail 2 (some .int) ∈ lw_tbl := tin8 (List.mem_of_getElem? (l := tables_1_8) (i := 163) rfl)
set_option maxRecDepth 100000 in
theorem ki_X12_logDetail : Cond.initialized yX12_logDetail.cls ∈ lw_tbl := tin1 (List.mem_of_getElem? (l := tables_1_1) (i := 11) rfl)
set_option maxRecDepth 100000 in
theorem kc_X12_logHour : Cond.code yX12_logHour cX12_logHour 2 (some .int) ∈ lw_tbl := tin8 (List.mem_of_getElem? (l := tables_1_8) (i := 151) rfl)
set_option maxRecDepth 100000 in
theorem ki_X12_logHour : Cond.initialized yX12_logHour.cls ∈ lw_tbl := tin1 (List.mem_of_getElem? (l := tables_1_1) (i := 11) rfl)
set_option maxRecDepth 100000 in
theorem kc_X12_logKind : Cond.code yX12_logKind cX12_logKind 2 (some .char) ∈ lw_tbl := tin8 (List.mem_of_getElem? (l := tables_1_8) (i := 159) rfl)
set_option maxRecDepth 100000 in
theorem ki_X12_logKind : Cond.initialized yX12_logKind.cls ∈ lw_tbl := tin1 (List.mem_of_getElem? (l := tables_1_1) (i := 11) rfl)
set_option maxRecDepth 100000 in
theorem kc_X12_logs : Cond.code yX12_logs cX12_logs 4 (none) ∈ lw_tbl := tin7 (List.mem_of_getElem? (l := tables_1_7) (i := 177) rfl)
set_option maxRecDepth 100000 in
theorem ki_X12_logs : Cond.initialized yX12_logs.cls ∈ lw_tbl := tin1 (List.mem_of_getElem? (l := tables_1_1) (i := 11) rfl)
set_option maxRecDepth 100000 in
theorem kc_X12_meanNoise : Cond.code yX12_meanNoise cX12_meanNoise 3 (some .double) ∈ lw_tbl := tin8 (List.mem_of_getElem? (l := tables_1_8) (i := 167) rfl)
set_option maxRecDepth 100000 in
theorem ki_X12_meanNoise : Cond.initialized yX12_meanNoise.cls ∈ lw_tbl := tin1 (List.mem_of_getElem? (l := tables_1_1) (i := 11) rfl)
set_option maxRecDepth 100000 in
theorem kc_X12_most : Cond.code yX12_most cX12_most 6 (some .int) ∈ lw_tbl := tin8 (List.mem_of_getElem? (l := tables_1_8) (i := 61) rfl)
set_option maxRecDepth 100000 in
theorem ki_X12_most : Cond.initialized yX12_most.cls ∈ lw_tbl := tin1 (List.mem_of_getElem? (l := tables_1_1) (i := 11) rfl)
set_option maxRecDepth 100000 in
theorem kc_X12_mostAgreeing : Cond.code yX12_mostAgreeing cX12_mostAgreeing 1 (some .int) ∈ lw_tbl := tin8 (List.mem_of_getElem? (l := tables_1_8) (i := 57) rfl)
set_option maxRecDepth 100000 in
theorem ki_X12_mostAgreeing : Cond.initialized yX12_mostAgreeing.cls ∈ lw_tbl := tin1 (List.mem_of_getElem? (l := tables_1_1) (i := 11) rfl)
set_option maxRecDepth 100000 in
theorem kc_X12_mostAgreeingBySets : Cond.code yX12_mostAgreeingBySets cX12_mostAgreeingBySets 1 (some .int) ∈ lw_tbl := tin8 (List.mem_of_getElem? (l := tables_1_8) (i := 65) rfl)
set_option maxRecDepth 100000 in
theorem ki_X12_mostAgreeingBySets : Cond.initialized yX12_mostAgreeingBySets.cls ∈ lw_tbl := tin1 (List.mem_of_getElem? (l := tables_1_1) (i := 11) rfl)
set_option maxRecDepth 100000 in
theorem kc_X12_noise : Cond.code yX12_noise cX12_noise 2 (some .int) ∈ lw_tbl := tin8 (List.mem_of_getElem? (l := tables_1_8) (i := 94) rfl)
set_option maxRecDepth 100000 in
theorem ki_X12_noise : Cond.initialized yX12_noise.cls ∈ lw_tbl := tin1 (List.mem_of_getElem? (l := tables_1_1) (i := 11) rfl)
set_option maxRecDepth 100000 in
theorem kc_X12_number : Cond.code yX12_number cX12_number 6 (none) ∈ lw_tbl := tin8 (List.mem_of_getElem? (l := tables_1_8) (i := 209) rfl)
set_option maxRecDepth 100000 in
theorem ki_X12_number : Cond.initialized yX12_number.cls ∈ lw_tbl := tin1 (List.mem_of_getElem? (l := tables_1_1) (i := 11) rfl)
set_option maxRecDepth 100000 in
theorem kc_X12_onIt : Cond.code yX12_onIt cX12_onIt 3 (some .int) ∈ lw_tbl := tin7 (List.mem_of_getElem? (l := tables_1_7) (i := 166) rfl)
set_option maxRecDepth 100000 in
theorem ki_X12_onIt : Cond.initialized yX12_onIt.cls ∈ lw_tbl := tin1 (List.mem_of_getElem? (l := tables_1_1) (i := 11) rfl)
set_option maxRecDepth 100000 in
theorem kc_X12_oneHour : Cond.code yX12_oneHour cX12_oneHour 5 (some .int) ∈ lw_tbl := tin7 (List.mem_of_getElem? (l := tables_1_7) (i := 228) rfl)
set_option maxRecDepth 100000 in
theorem ki_X12_oneHour : Cond.initialized yX12_oneHour.cls ∈ lw_tbl := tin1 (List.mem_of_getElem? (l := tables_1_1) (i := 11) rfl)
set_option maxRecDepth 100000 in
theorem kc_X12_openVault : Cond.code yX12_openVault cX12_openVault 1 (some .boolean) ∈ lw_tbl := tin7 (List.mem_of_getElem? (l := tables_1_7) (i := 146) rfl)
set_option maxRecDepth 100000 in
theorem ki_X12_openVault : Cond.initialized yX12_openVault.cls ∈ lw_tbl := tin1 (List.mem_of_getElem? (l := tables_1_1) (i := 11) rfl)
set_option maxRecDepth 100000 in
theorem kc_X12_openingCount : Cond.code yX12_openingCount cX12_openingCount 1 (some .int) ∈ lw_tbl := tin8 (List.mem_of_getElem? (l := tables_1_8) (i := 143) rfl)
set_option maxRecDepth 100000 in
theorem ki_X12_openingCount : Cond.initialized yX12_openingCount.cls ∈ lw_tbl := tin1 (List.mem_of_getElem? (l := tables_1_1) (i := 11) rfl)
set_option maxRecDepth 100000 in
theorem kc_X12_opens : Cond.code yX12_opens cX12_opens 2 (some .int) ∈ lw_tbl := tin9 (List.mem_of_getElem? (l := tables_1_9) (i := 7) rfl)
set_option maxRecDepth 100000 in
theorem ki_X12_opens : Cond.initialized yX12_opens.cls ∈ lw_tbl := tin1 (List.mem_of_getElem? (l := tables_1_1) (i := 11) rfl)
set_option maxRecDepth 100000 in
theorem kc_X12_outputChar : Cond.code yX12_outputChar cX12_outputChar 2 (some .char) ∈ lw_tbl := tin9 (List.mem_of_getElem? (l := tables_1_9) (i := 31) rfl)
set_option maxRecDepth 100000 in
theorem ki_X12_outputChar : Cond.initialized yX12_outputChar.cls ∈ lw_tbl := tin1 (List.mem_of_getElem? (l := tables_1_1) (i := 11) rfl)
set_option maxRecDepth 100000 in
theorem kc_X12_passHours : Cond.code yX12_passHours cX12_passHours 2 (some .int) ∈ lw_tbl := tin7 (List.mem_of_getElem? (l := tables_1_7) (i := 220) rfl)
set_option maxRecDepth 100000 in
theorem ki_X12_passHours : Cond.initialized yX12_passHours.cls ∈ lw_tbl := tin1 (List.mem_of_getElem? (l := tables_1_1) (i := 11) rfl)
set_option maxRecDepth 100000 in
theorem kc_X12_passes : Cond.code yX12_passes cX12_passes 4 (some .int) ∈ lw_tbl := tin7 (List.mem_of_getElem? (l := tables_1_7) (i := 224) rfl)
set_option maxRecDepth 100000 in
theorem ki_X12_passes : Cond.initialized yX12_passes.cls ∈ lw_tbl := tin1 (List.mem_of_getElem? (l := tables_1_1) (i := 11) rfl)
set_option maxRecDepth 100000 in
theorem kc_X12_placeOf : Cond.code yX12_placeOf cX12_placeOf 3 (some .int) ∈ lw_tbl := tin7 (List.mem_of_getElem? (l := tables_1_7) (i := 134) rfl)
set_option maxRecDepth 100000 in
theorem ki_X12_placeOf : Cond.initialized yX12_placeOf.cls ∈ lw_tbl := tin1 (List.mem_of_getElem? (l := tables_1_1) (i := 11) rfl)
set_option maxRecDepth 100000 in
theorem kc_X12_present : Cond.code yX12_present cX12_present 2 (some .int) ∈ lw_tbl := tin7 (List.mem_of_getElem? (l := tables_1_7) (i := 126) rfl)
set_option maxRecDepth 100000 in
theorem ki_X12_present : Cond.initialized yX12_present.cls ∈ lw_tbl := tin1 (List.mem_of_getElem? (l := tables_1_1) (i := 11) rfl)
set_option maxRecDepth 100000 in
theorem kc_X12_presentedAt : Cond.code yX12_presentedAt cX12_presentedAt 2 (some .int) ∈ lw_tbl := tin8 (List.mem_of_getElem? (l := tables_1_8) (i := 32) rfl)
set_option maxRecDepth 100000 in
theorem ki_X12_presentedAt : Cond.initialized yX12_presentedAt.cls ∈ lw_tbl := tin1 (List.mem_of_getElem? (l := tables_1_1) (i := 11) rfl)
set_option maxRecDepth 100000 in
theorem kc_X12_presentedCount : Cond.code yX12_presentedCount cX12_presentedCount 1 (some .int) ∈ lw_tbl := tin8 (List.mem_of_getElem? (l := tables_1_8) (i := 28) rfl)
set_option maxRecDepth 100000 in
theorem ki_X12_presentedCount : Cond.initialized yX12_presentedCount.cls ∈ lw_tbl := tin1 (List.mem_of_getElem? (l := tables_1_1) (i := 11) rfl)
set_option maxRecDepth 100000 in
theorem kc_X12_presents : Cond.code yX12_presents cX12_presents 2 (some .int) ∈ lw_tbl := tin7 (List.mem_of_getElem? (l := tables_1_7) (i := 130) rfl)
set_option maxRecDepth 100000 in
theorem ki_X12_presents : Cond.initialized yX12_presents.cls ∈ lw_tbl := tin1 (List.mem_of_getElem? (l := tables_1_1) (i := 11) rfl)
set_option maxRecDepth 100000 in
theorem kc_X12_readsGuard : Cond.code yX12_readsGuard cX12_readsGuard 1 (none) ∈ lw_tbl := tin8 (List.mem_of_getElem? (l := tables_1_8) (i := 227) rfl)
set_option maxRecDepth 100000 in
theorem ki_X12_readsGuard : Cond.initialized yX12_readsGuard.cls ∈ lw_tbl := tin1 (List.mem_of_getElem? (l := tables_1_1) (i := 11) rfl)
set_option maxRecDepth 100000 in
theorem kc_X12_readsOne : Cond.code yX12_readsOne cX12_readsOne 3 (none) ∈ lw_tbl := tin8 (List.mem_of_getElem? (l := tables_1_8) (i := 200) rfl)
set_option maxRecDepth 100000 in
theorem ki_X12_readsOne : Cond.initialized yX12_readsOne.cls ∈ lw_tbl := tin1 (List.mem_of_getElem? (l := tables_1_1) (i := 11) rfl)
set_option maxRecDepth 100000 in
theorem kc_X12_readsSeal : Cond.code yX12_readsSeal cX12_readsSeal 2 (none) ∈ lw_tbl := tin8 (List.mem_of_getElem? (l := tables_1_8) (i := 222) rfl)
set_option maxRecDepth 100000 in
theorem ki_X12_readsSeal : Cond.initialized yX12_readsSeal.cls ∈ lw_tbl := tin1 (List.mem_of_getElem? (l := tables_1_1) (i := 11) rfl)
set_option maxRecDepth 100000 in
theorem kc_X12_readsWait : Cond.code yX12_readsWait cX12_readsWait 1 (none) ∈ lw_tbl := tin8 (List.mem_of_getElem? (l := tables_1_8) (i := 238) rfl)
set_option maxRecDepth 100000 in
theorem ki_X12_readsWait : Cond.initialized yX12_readsWait.cls ∈ lw_tbl := tin1 (List.mem_of_getElem? (l := tables_1_1) (i := 11) rfl)
set_option maxRecDepth 100000 in
theorem kc_X12_refusalCause : Cond.code yX12_refusalCause cX12_refusalCause 1 (some .int) ∈ lw_tbl := tin8 (List.mem_of_getElem? (l := tables_1_8) (i := 188) rfl)
set_option maxRecDepth 100000 in
theorem ki_X12_refusalCause : Cond.initialized yX12_refusalCause.cls ∈ lw_tbl := tin1 (List.mem_of_getElem? (l := tables_1_1) (i := 11) rfl)
set_option maxRecDepth 100000 in
theorem kc_X12_refusalDetail : Cond.code yX12_refusalDetail cX12_refusalDetail 1 (some .int) ∈ lw_tbl := tin8 (List.mem_of_getElem? (l := tables_1_8) (i := 184) rfl)
set_option maxRecDepth 100000 in
theorem ki_X12_refusalDetail : Cond.initialized yX12_refusalDetail.cls ∈ lw_tbl := tin1 (List.mem_of_getElem? (l := tables_1_1) (i := 11) rfl)
set_option maxRecDepth 100000 in
theorem kc_X12_refusalReason : Cond.code yX12_refusalReason cX12_refusalReason 1 (some .int) ∈ lw_tbl := tin8 (List.mem_of_getElem? (l := tables_1_8) (i := 180) rfl)
set_option maxRecDepth 100000 in
theorem ki_X12_refusalReason : Cond.initialized yX12_refusalReason.cls ∈ lw_tbl := tin1 (List.mem_of_getElem? (l := tables_1_1) (i := 11) rfl)
set_option maxRecDepth 100000 in
theorem kc_X12_refused : Cond.code yX12_refused cX12_refused 3 (some .int) ∈ lw_tbl := tin7 (List.mem_of_getElem? (l := tables_1_7) (i := 75) rfl)
set_option maxRecDepth 100000 in
theorem ki_X12_refused : Cond.initialized yX12_refused.cls ∈ lw_tbl := tin1 (List.mem_of_getElem? (l := tables_1_1) (i := 11) rfl)
set_option maxRecDepth 100000 in
theorem kc_X12_remembers : Cond.code yX12_remembers cX12_remembers 2 (none) ∈ lw_tbl := tin7 (List.mem_of_getElem? (l := tables_1_7) (i := 67) rfl)
set_option maxRecDepth 100000 in
theorem ki_X12_remembers : Cond.initialized yX12_remembers.cls ∈ lw_tbl := tin1 (List.mem_of_getElem? (l := tables_1_1) (i := 11) rfl)
set_option maxRecDepth 100000 in
theorem kc_X12_restore : Cond.code yX12_restore cX12_restore 2 (some .int) ∈ lw_tbl := tin9 (List.mem_of_getElem? (l := tables_1_9) (i := 47) rfl)
set_option maxRecDepth 100000 in
theorem ki_X12_restore : Cond.initialized yX12_restore.cls ∈ lw_tbl := tin1 (List.mem_of_getElem? (l := tables_1_1) (i := 11) rfl)
set_option maxRecDepth 100000 in
theorem kc_X12_runCommands : Cond.code yX12_runCommands cX12_runCommands 4 (some .int) ∈ lw_tbl := tin8 (List.mem_of_getElem? (l := tables_1_8) (i := 196) rfl)
set_option maxRecDepth 100000 in
theorem ki_X12_runCommands : Cond.initialized yX12_runCommands.cls ∈ lw_tbl := tin1 (List.mem_of_getElem? (l := tables_1_1) (i := 11) rfl)
set_option maxRecDepth 100000 in
theorem kc_X12_save : Cond.code yX12_save cX12_save 2 (some .int) ∈ lw_tbl := tin9 (List.mem_of_getElem? (l := tables_1_9) (i := 43) rfl)
set_option maxRecDepth 100000 in
theorem ki_X12_save : Cond.initialized yX12_save.cls ∈ lw_tbl := tin1 (List.mem_of_getElem? (l := tables_1_1) (i := 11) rfl)
set_option maxRecDepth 100000 in
theorem kc_X12_says : Cond.code yX12_says cX12_says 3 (none) ∈ lw_tbl := tin8 (List.mem_of_getElem? (l := tables_1_8) (i := 213) rfl)
set_option maxRecDepth 100000 in
theorem ki_X12_says : Cond.initialized yX12_says.cls ∈ lw_tbl := tin1 (List.mem_of_getElem? (l := tables_1_1) (i := 11) rfl)
set_option maxRecDepth 100000 in
theorem kc_X12_seal : Cond.code yX12_seal cX12_seal 5 (some .int) ∈ lw_tbl := tin7 (List.mem_of_getElem? (l := tables_1_7) (i := 99) rfl)
set_option maxRecDepth 100000 in
theorem ki_X12_seal : Cond.initialized yX12_seal.cls ∈ lw_tbl := tin1 (List.mem_of_getElem? (l := tables_1_1) (i := 11) rfl)
set_option maxRecDepth 100000 in
theorem kc_X12_seals : Cond.code yX12_seals cX12_seals 6 (some .int) ∈ lw_tbl := tin7 (List.mem_of_getElem? (l := tables_1_7) (i := 103) rfl)
set_option maxRecDepth 100000 in
theorem ki_X12_seals : Cond.initialized yX12_seals.cls ∈ lw_tbl := tin1 (List.mem_of_getElem? (l := tables_1_1) (i := 11) rfl)
set_option maxRecDepth 100000 in
theorem kc_X12_setShare : Cond.code yX12_setShare cX12_setShare 3 (some .int) ∈ lw_tbl := tin7 (List.mem_of_getElem? (l := tables_1_7) (i := 114) rfl)
set_option maxRecDepth 100000 in
theorem ki_X12_setShare : Cond.initialized yX12_setShare.cls ∈ lw_tbl := tin1 (List.mem_of_getElem? (l := tables_1_1) (i := 11) rfl)
set_option maxRecDepth 100000 in
theorem kc_X12_share : Cond.code yX12_share cX12_share 2 (some .int) ∈ lw_tbl := tin8 (List.mem_of_getElem? (l := tables_1_8) (i := 12) rfl)
set_option maxRecDepth 100000 in
theorem ki_X12_share : Cond.initialized yX12_share.cls ∈ lw_tbl := tin1 (List.mem_of_getElem? (l := tables_1_1) (i := 11) rfl)
set_option maxRecDepth 100000 in
theorem kc_X12_shares : Cond.code yX12_shares cX12_shares 4 (some .int) ∈ lw_tbl := tin7 (List.mem_of_getElem? (l := tables_1_7) (i := 118) rfl)
set_option maxRecDepth 100000 in
theorem ki_X12_shares : Cond.initialized yX12_shares.cls ∈ lw_tbl := tin1 (List.mem_of_getElem? (l := tables_1_1) (i := 11) rfl)
set_option maxRecDepth 100000 in
theorem kc_X12_takeBack : Cond.code yX12_takeBack cX12_takeBack 2 (some .int) ∈ lw_tbl := tin7 (List.mem_of_getElem? (l := tables_1_7) (i := 138) rfl)
set_option maxRecDepth 100000 in
theorem ki_X12_takeBack : Cond.initialized yX12_takeBack.cls ∈ lw_tbl := tin1 (List.mem_of_getElem? (l := tables_1_1) (i := 11) rfl)
set_option maxRecDepth 100000 in
theorem kc_X12_takes : Cond.code yX12_takes cX12_takes 4 (some .int) ∈ lw_tbl := tin7 (List.mem_of_getElem? (l := tables_1_7) (i := 142) rfl)
set_option maxRecDepth 100000 in
theorem ki_X12_takes : Cond.initialized yX12_takes.cls ∈ lw_tbl := tin1 (List.mem_of_getElem? (l := tables_1_1) (i := 11) rfl)
set_option maxRecDepth 100000 in
theorem kc_X12_takesFirst : Cond.code yX12_takesFirst cX12_takesFirst 2 (none) ∈ lw_tbl := tin7 (List.mem_of_getElem? (l := tables_1_7) (i := 162) rfl)
set_option maxRecDepth 100000 in
theorem ki_X12_takesFirst : Cond.initialized yX12_takesFirst.cls ∈ lw_tbl := tin1 (List.mem_of_getElem? (l := tables_1_1) (i := 11) rfl)
set_option maxRecDepth 100000 in
theorem kc_X12_thinks : Cond.code yX12_thinks cX12_thinks 2 (none) ∈ lw_tbl := tin8 (List.mem_of_getElem? (l := tables_1_8) (i := 110) rfl)
set_option maxRecDepth 100000 in
theorem ki_X12_thinks : Cond.initialized yX12_thinks.cls ∈ lw_tbl := tin1 (List.mem_of_getElem? (l := tables_1_1) (i := 11) rfl)
set_option maxRecDepth 100000 in
theorem kc_X12_threshold : Cond.code yX12_threshold cX12_threshold 1 (some .int) ∈ lw_tbl := tin8 (List.mem_of_getElem? (l := tables_1_8) (i := 8) rfl)
set_option maxRecDepth 100000 in
theorem ki_X12_threshold : Cond.initialized yX12_threshold.cls ∈ lw_tbl := tin1 (List.mem_of_getElem? (l := tables_1_1) (i := 11) rfl)
set_option maxRecDepth 100000 in
theorem kc_X12_through : Cond.code yX12_through cX12_through 8 (some .int) ∈ lw_tbl := tin7 (List.mem_of_getElem? (l := tables_1_7) (i := 170) rfl)
set_option maxRecDepth 100000 in
theorem ki_X12_through : Cond.initialized yX12_through.cls ∈ lw_tbl := tin1 (List.mem_of_getElem? (l := tables_1_1) (i := 11) rfl)
set_option maxRecDepth 100000 in
theorem kc_X12_thrown : Cond.code yX12_thrown cX12_thrown 1 (some .int) ∈ lw_tbl := tin7 (List.mem_of_getElem? (l := tables_1_7) (i := 59) rfl)
set_option maxRecDepth 100000 in
theorem ki_X12_thrown : Cond.initialized yX12_thrown.cls ∈ lw_tbl := tin1 (List.mem_of_getElem? (l := tables_1_1) (i := 11) rfl)
set_option maxRecDepth 100000 in
theorem kc_X12_toldSecret : Cond.code yX12_toldSecret cX12_toldSecret 1 (some .int) ∈ lw_tbl := tin8 (List.mem_of_getElem? (l := tables_1_8) (i := 36) rfl)
set_option maxRecDepth 100000 in
theorem ki_X12_toldSecret : Cond.initialized yX12_toldSecret.cls ∈ lw_tbl := tin1 (List.mem_of_getElem? (l := tables_1_1) (i := 11) rfl)
set_option maxRecDepth 100000 in
theorem kc_X12_toldSecretByElimination : Cond.code yX12_toldSecretByElimination cX12_toldSecretByElimination 1 (some .int) ∈ lw_tbl := tin8 (List.mem_of_getElem? (l := tables_1_8) (i := 44) rfl)
set_option maxRecDepth 100000 in
theorem ki_X12_toldSecretByElimination : Cond.initialized yX12_toldSecretByElimination.cls ∈ lw_tbl := tin1 (List.mem_of_getElem? (l := tables_1_1) (i := 11) rfl)
set_option maxRecDepth 100000 in
theorem kc_X12_toldValue : Cond.code yX12_toldValue cX12_toldValue 3 (some .int) ∈ lw_tbl := tin8 (List.mem_of_getElem? (l := tables_1_8) (i := 49) rfl)
set_option maxRecDepth 100000 in
theorem ki_X12_toldValue : Cond.initialized yX12_toldValue.cls ∈ lw_tbl := tin1 (List.mem_of_getElem? (l := tables_1_1) (i := 11) rfl)
set_option maxRecDepth 100000 in
theorem kc_X12_tries : Cond.code yX12_tries cX12_tries 2 (some .int) ∈ lw_tbl := tin7 (List.mem_of_getElem? (l := tables_1_7) (i := 150) rfl)
set_option maxRecDepth 100000 in
theorem ki_X12_tries : Cond.initialized yX12_tries.cls ∈ lw_tbl := tin1 (List.mem_of_getElem? (l := tables_1_1) (i := 11) rfl)
set_option maxRecDepth 100000 in
theorem kc_X12_turnGuard : Cond.code yX12_turnGuard cX12_turnGuard 2 (some .boolean) ∈ lw_tbl := tin7 (List.mem_of_getElem? (l := tables_1_7) (i := 200) rfl)
set_option maxRecDepth 100000 in
theorem ki_X12_turnGuard : Cond.initialized yX12_turnGuard.cls ∈ lw_tbl := tin1 (List.mem_of_getElem? (l := tables_1_1) (i := 11) rfl)
set_option maxRecDepth 100000 in
theorem kc_X12_turns : Cond.code yX12_turns cX12_turns 2 (some .int) ∈ lw_tbl := tin7 (List.mem_of_getElem? (l := tables_1_7) (i := 204) rfl)
set_option maxRecDepth 100000 in
theorem ki_X12_turns : Cond.initialized yX12_turns.cls ∈ lw_tbl := tin1 (List.mem_of_getElem? (l := tables_1_1) (i := 11) rfl)
set_option maxRecDepth 100000 in
theorem kc_X12_undo : Cond.code yX12_undo cX12_undo 2 (some .int) ∈ lw_tbl := tin9 (List.mem_of_getElem? (l := tables_1_9) (i := 39) rfl)
set_option maxRecDepth 100000 in
theorem ki_X12_undo : Cond.initialized yX12_undo.cls ∈ lw_tbl := tin1 (List.mem_of_getElem? (l := tables_1_1) (i := 11) rfl)
set_option maxRecDepth 100000 in
theorem kc_X12_undoCount : Cond.code yX12_undoCount cX12_undoCount 1 (some .int) ∈ lw_tbl := tin9 (List.mem_of_getElem? (l := tables_1_9) (i := 35) rfl)
set_option maxRecDepth 100000 in
theorem ki_X12_undoCount : Cond.initialized yX12_undoCount.cls ∈ lw_tbl := tin1 (List.mem_of_getElem? (l := tables_1_1) (i := 11) rfl)
set_option maxRecDepth 100000 in
theorem kc_X12_writeLog : Cond.code yX12_writeLog cX12_writeLog 2 (some .int) ∈ lw_tbl := tin9 (List.mem_of_getElem? (l := tables_1_9) (i := 27) rfl)
set_option maxRecDepth 100000 in
theorem ki_X12_writeLog : Cond.initialized yX12_writeLog.cls ∈ lw_tbl := tin1 (List.mem_of_getElem? (l := tables_1_1) (i := 11) rfl)
set_option maxRecDepth 100000 in
theorem kc_X12_writeZones : Cond.code yX12_writeZones cX12_writeZones 3 (some .int) ∈ lw_tbl := tin9 (List.mem_of_getElem? (l := tables_1_9) (i := 15) rfl)
set_option maxRecDepth 100000 in
theorem ki_X12_writeZones : Cond.initialized yX12_writeZones.cls ∈ lw_tbl := tin1 (List.mem_of_getElem? (l := tables_1_1) (i := 11) rfl)
set_option maxRecDepth 100000 in
theorem kc_X12_writes : Cond.code yX12_writes cX12_writes 2 (none) ∈ lw_tbl := tin9 (List.mem_of_getElem? (l := tables_1_9) (i := 19) rfl)
set_option maxRecDepth 100000 in
theorem ki_X12_writes : Cond.initialized yX12_writes.cls ∈ lw_tbl := tin1 (List.mem_of_getElem? (l := tables_1_1) (i := 11) rfl)
set_option maxRecDepth 100000 in
theorem kc_X12_writesNumber : Cond.code yX12_writesNumber cX12_writesNumber 2 (none) ∈ lw_tbl := tin9 (List.mem_of_getElem? (l := tables_1_9) (i := 23) rfl)
set_option maxRecDepth 100000 in
theorem ki_X12_writesNumber : Cond.initialized yX12_writesNumber.cls ∈ lw_tbl := tin1 (List.mem_of_getElem? (l := tables_1_1) (i := 11) rfl)
set_option maxRecDepth 100000 in
theorem kc_X12_zoneByNoise : Cond.code yX12_zoneByNoise cX12_zoneByNoise 5 (some .int) ∈ lw_tbl := tin8 (List.mem_of_getElem? (l := tables_1_8) (i := 127) rfl)
set_option maxRecDepth 100000 in
theorem ki_X12_zoneByNoise : Cond.initialized yX12_zoneByNoise.cls ∈ lw_tbl := tin1 (List.mem_of_getElem? (l := tables_1_1) (i := 11) rfl)
set_option maxRecDepth 100000 in
theorem kc_X12_zoneOf : Cond.code yX12_zoneOf cX12_zoneOf 2 (some .int) ∈ lw_tbl := tin8 (List.mem_of_getElem? (l := tables_1_8) (i := 86) rfl)
set_option maxRecDepth 100000 in
theorem ki_X12_zoneOf : Cond.initialized yX12_zoneOf.cls ∈ lw_tbl := tin1 (List.mem_of_getElem? (l := tables_1_1) (i := 11) rfl)
set_option maxRecDepth 100000 in
theorem kc_J6_bitCount_0f7a4 : Cond.code yJ6_bitCount_0f7a4 cJ6_bitCount_0f7a4 1 (some .int) ∈ lw_tbl := tin2 (List.mem_of_getElem? (l := tables_1_2) (i := 235) rfl)
set_option maxRecDepth 100000 in
theorem ki_J6_bitCount_0f7a4 : Cond.initialized yJ6_bitCount_0f7a4.cls ∈ lw_tbl := tin1 (List.mem_of_getElem? (l := tables_1_1) (i := 23) rfl)
set_option maxRecDepth 100000 in
theorem kc_J9_floorMod_7cf53 : Cond.code yJ9_floorMod_7cf53 cJ9_floorMod_7cf53 3 (some .int) ∈ lw_tbl := tin2 (List.mem_of_getElem? (l := tables_1_2) (i := 179) rfl)
set_option maxRecDepth 100000 in
theorem ki_J9_floorMod_7cf53 : Cond.initialized yJ9_floorMod_7cf53.cls ∈ lw_tbl := tin1 (List.mem_of_getElem? (l := tables_1_1) (i := 19) rfl)
set_option maxRecDepth 100000 in
theorem kc_J0_charAt_5068e : Cond.code yJ0_charAt_5068e cJ0_charAt_5068e 2 (some .char) ∈ lw_tbl := tin6 (List.mem_of_getElem? (l := tables_1_6) (i := 79) rfl)
set_option maxRecDepth 100000 in
theorem ki_J0_charAt_5068e : Cond.initialized yJ0_charAt_5068e.cls ∈ lw_tbl := tin1 (List.mem_of_getElem? (l := tables_1_1) (i := 21) rfl)
set_option maxRecDepth 100000 in
theorem kc_J0_checkIndex_df160 : Cond.code yJ0_checkIndex_df160 cJ0_checkIndex_df160 2 (none) ∈ lw_tbl := tin6 (List.mem_of_getElem? (l := tables_1_6) (i := 89) rfl)
set_option maxRecDepth 100000 in
theorem ki_J0_checkIndex_df160 : Cond.initialized yJ0_checkIndex_df160.cls ∈ lw_tbl := tin1 (List.mem_of_getElem? (l := tables_1_1) (i := 21) rfl)
set_option maxRecDepth 100000 in
theorem kc_J0_coder_7d493 : Cond.code yJ0_coder_7d493 cJ0_coder_7d493 1 (some .byte) ∈ lw_tbl := tin6 (List.mem_of_getElem? (l := tables_1_6) (i := 73) rfl)
set_option maxRecDepth 100000 in
theorem ki_J0_coder_7d493 : Cond.initialized yJ0_coder_7d493.cls ∈ lw_tbl := tin1 (List.mem_of_getElem? (l := tables_1_1) (i := 21) rfl)
set_option maxRecDepth 100000 in
theorem kc_J0_isLatin1_aae02 : Cond.code yJ0_isLatin1_aae02 cJ0_isLatin1_aae02 1 (some .boolean) ∈ lw_tbl := tin6 (List.mem_of_getElem? (l := tables_1_6) (i := 83) rfl)
set_option maxRecDepth 100000 in
theorem ki_J0_isLatin1_aae02 : Cond.initialized yJ0_isLatin1_aae02.cls ∈ lw_tbl := tin1 (List.mem_of_getElem? (l := tables_1_1) (i := 21) rfl)
set_option maxRecDepth 100000 in
theorem kc_J0_length_8abf5 : Cond.code yJ0_length_8abf5 cJ0_length_8abf5 1 (some .int) ∈ lw_tbl := tin6 (List.mem_of_getElem? (l := tables_1_6) (i := 69) rfl)
set_option maxRecDepth 100000 in
theorem ki_J0_length_8abf5 : Cond.initialized yJ0_length_8abf5.cls ∈ lw_tbl := tin1 (List.mem_of_getElem? (l := tables_1_1) (i := 21) rfl)
set_option maxRecDepth 100000 in
theorem kc_J1_charAt_3b067 : Cond.code yJ1_charAt_3b067 cJ1_charAt_3b067 2 (some .char) ∈ lw_tbl := tin6 (List.mem_of_getElem? (l := tables_1_6) (i := 86) rfl)
set_option maxRecDepth 100000 in
theorem ki_J1_charAt_3b067 : Cond.initialized yJ1_charAt_3b067.cls ∈ lw_tbl := tin1 (List.mem_of_getElem? (l := tables_1_1) (i := 26) rfl)
set_option maxRecDepth 100000 in
theorem kc_J3_checkIndex_8e157 : Cond.code yJ3_checkIndex_8e157 cJ3_checkIndex_8e157 3 (some .int) ∈ lw_tbl := tin6 (List.mem_of_getElem? (l := tables_1_6) (i := 94) rfl)
set_option maxRecDepth 100000 in
theorem ki_J3_checkIndex_8e157 : Cond.initialized yJ3_checkIndex_8e157.cls ∈ lw_tbl := tin1 (List.mem_of_getElem? (l := tables_1_1) (i := 27) rfl)
set_option maxRecDepth 100000 in
theorem sel_X11_doTellingsMatch {s : State} {a : Array Value} (h : mT s) : (Cond.selects "ShareVault" yX11_doTellingsMatch yX11_doTellingsMatch).before a s = true := h _ (List.mem_append_left _ (List.mem_of_getElem? (l := k2_sels lw_privs) (i := 3) rfl)) rfl a
set_option maxRecDepth 100000 in
theorem sel_X11_doVisitsMatch {s : State} {a : Array Value} (h : mT s) : (Cond.selects "ShareVault" yX11_doVisitsMatch yX11_doVisitsMatch).before a s = true := h _ (List.mem_append_left _ (List.mem_of_getElem? (l := k2_sels lw_privs) (i := 0) rfl)) rfl a
set_option maxRecDepth 100000 in
theorem sel_X11_keepRefusal {s : State} {a : Array Value} (h : mT s) : (Cond.selects "ShareVault" yX11_keepRefusal yX11_keepRefusal).before a s = true := h _ (List.mem_append_left _ (List.mem_of_getElem? (l := k2_sels lw_privs) (i := 14) rfl)) rfl a
set_option maxRecDepth 100000 in
theorem sel_X11_putGuardsIn {s : State} {a : Array Value} (h : mT s) : (Cond.selects "ShareVault" yX11_putGuardsIn yX11_putGuardsIn).before a s = true := h _ (List.mem_append_left _ (List.mem_of_getElem? (l := k2_sels lw_privs) (i := 11) rfl)) rfl a
set_option maxRecDepth 100000 in
theorem sel_X11_requireEnoughKeys {s : State} {a : Array Value} (h : mT s) : (Cond.selects "ShareVault" yX11_requireEnoughKeys yX11_requireEnoughKeys).before a s = true := h _ (List.mem_append_left _ (List.mem_of_getElem? (l := k2_sels lw_privs) (i := 20) rfl)) rfl a
set_option maxRecDepth 100000 in
theorem sel_X11_requireEntry {s : State} {a : Array Value} (h : mT s) : (Cond.selects "ShareVault" yX11_requireEntry yX11_requireEntry).before a s = true := h _ (List.mem_append_left _ (List.mem_of_getElem? (l := k2_sels lw_privs) (i := 26) rfl)) rfl a
set_option maxRecDepth 100000 in
theorem sel_X11_requireGuard {s : State} {a : Array Value} (h : mT s) : (Cond.selects "ShareVault" yX11_requireGuard yX11_requireGuard).before a s = true := h _ (List.mem_append_left _ (List.mem_of_getElem? (l := k2_sels lw_privs) (i := 21) rfl)) rfl a
set_option maxRecDepth 100000 in
theorem sel_X11_requireGuards {s : State} {a : Array Value} (h : mT s) : (Cond.selects "ShareVault" yX11_requireGuards yX11_requireGuards).before a s = true := h _ (List.mem_append_left _ (List.mem_of_getElem? (l := k2_sels lw_privs) (i := 23) rfl)) rfl a
set_option maxRecDepth 100000 in
theorem sel_X11_requireHolder {s : State} {a : Array Value} (h : mT s) : (Cond.selects "ShareVault" yX11_requireHolder yX11_requireHolder).before a s = true := h _ (List.mem_append_left _ (List.mem_of_getElem? (l := k2_sels lw_privs) (i := 19) rfl)) rfl a
set_option maxRecDepth 100000 in
theorem sel_X11_requireRefusal {s : State} {a : Array Value} (h : mT s) : (Cond.selects "ShareVault" yX11_requireRefusal yX11_requireRefusal).before a s = true := h _ (List.mem_append_left _ (List.mem_of_getElem? (l := k2_sels lw_privs) (i := 27) rfl)) rfl a
set_option maxRecDepth 100000 in
theorem sel_X11_requireSeal {s : State} {a : Array Value} (h : mT s) : (Cond.selects "ShareVault" yX11_requireSeal yX11_requireSeal).before a s = true := h _ (List.mem_append_left _ (List.mem_of_getElem? (l := k2_sels lw_privs) (i := 18) rfl)) rfl a
set_option maxRecDepth 100000 in
theorem sel_X11_requireZone {s : State} {a : Array Value} (h : mT s) : (Cond.selects "ShareVault" yX11_requireZone yX11_requireZone).before a s = true := h _ (List.mem_append_left _ (List.mem_of_getElem? (l := k2_sels lw_privs) (i := 22) rfl)) rfl a
set_option maxRecDepth 100000 in
theorem sel_X11_settle {s : State} {a : Array Value} (h : mT s) : (Cond.selects "ShareVault" yX11_settle yX11_settle).before a s = true := h _ (List.mem_append_left _ (List.mem_of_getElem? (l := k2_sels lw_privs) (i := 12) rfl)) rfl a
set_option maxRecDepth 100000 in
theorem sel_X11_visitByHours {s : State} {a : Array Value} (h : mT s) : (Cond.selects "ShareVault" yX11_visitByHours yX11_visitByHours).before a s = true := h _ (List.mem_append_left _ (List.mem_of_getElem? (l := k2_sels lw_privs) (i := 1) rfl)) rfl a
set_option maxRecDepth 100000 in
theorem sel_X1_comesBefore {s : State} {a : Array Value} (h : mT s) : (Cond.selects "ShareVault$Building" yX1_comesBefore yX1_comesBefore).before a s = true := h _ (List.mem_append_left _ (List.mem_of_getElem? (l := k2_sels lw_privs) (i := 25) rfl)) rfl a
set_option maxRecDepth 100000 in
theorem sel_X1_rankOf {s : State} {a : Array Value} (h : mT s) : (Cond.selects "ShareVault$Building" yX1_rankOf yX1_rankOf).before a s = true := h _ (List.mem_append_left _ (List.mem_of_getElem? (l := k2_sels lw_privs) (i := 24) rfl)) rfl a
set_option maxRecDepth 100000 in
theorem sel_X1_visitOf {s : State} {a : Array Value} (h : mT s) : (Cond.selects "ShareVault$Building" yX1_visitOf yX1_visitOf).before a s = true := h _ (List.mem_append_left _ (List.mem_of_getElem? (l := k2_sels lw_privs) (i := 2) rfl)) rfl a
set_option maxRecDepth 100000 in
theorem sel_X2_addNumber {s : State} {a : Array Value} (h : mT s) : (Cond.selects "ShareVault$Commands" yX2_addNumber yX2_addNumber).before a s = true := h _ (List.mem_append_left _ (List.mem_of_getElem? (l := k2_sels lw_privs) (i := 33) rfl)) rfl a
set_option maxRecDepth 100000 in
theorem sel_X2_matchingLetters {s : State} {a : Array Value} (h : mT s) : (Cond.selects "ShareVault$Commands" yX2_matchingLetters yX2_matchingLetters).before a s = true := h _ (List.mem_append_left _ (List.mem_of_getElem? (l := k2_sels lw_privs) (i := 30) rfl)) rfl a
set_option maxRecDepth 100000 in
theorem sel_X2_peek {s : State} {a : Array Value} (h : mT s) : (Cond.selects "ShareVault$Commands" yX2_peek yX2_peek).before a s = true := h _ (List.mem_append_left _ (List.mem_of_getElem? (l := k2_sels lw_privs) (i := 32) rfl)) rfl a
set_option maxRecDepth 100000 in
theorem sel_X2_readBlank {s : State} {a : Array Value} (h : mT s) : (Cond.selects "ShareVault$Commands" yX2_readBlank yX2_readBlank).before a s = true := h _ (List.mem_append_left _ (List.mem_of_getElem? (l := k2_sels lw_privs) (i := 37) rfl)) rfl a
set_option maxRecDepth 100000 in
theorem sel_X2_readCommand {s : State} {a : Array Value} (h : mT s) : (Cond.selects "ShareVault$Commands" yX2_readCommand yX2_readCommand).before a s = true := h _ (List.mem_append_left _ (List.mem_of_getElem? (l := k2_sels lw_privs) (i := 28) rfl)) rfl a
set_option maxRecDepth 100000 in
theorem sel_X2_readDirection {s : State} {a : Array Value} (h : mT s) : (Cond.selects "ShareVault$Commands" yX2_readDirection yX2_readDirection).before a s = true := h _ (List.mem_append_left _ (List.mem_of_getElem? (l := k2_sels lw_privs) (i := 36) rfl)) rfl a
set_option maxRecDepth 100000 in
theorem sel_X2_readForm {s : State} {a : Array Value} (h : mT s) : (Cond.selects "ShareVault$Commands" yX2_readForm yX2_readForm).before a s = true := h _ (List.mem_append_left _ (List.mem_of_getElem? (l := k2_sels lw_privs) (i := 31) rfl)) rfl a
set_option maxRecDepth 100000 in
theorem sel_X2_readNumber {s : State} {a : Array Value} (h : mT s) : (Cond.selects "ShareVault$Commands" yX2_readNumber yX2_readNumber).before a s = true := h _ (List.mem_append_left _ (List.mem_of_getElem? (l := k2_sels lw_privs) (i := 35) rfl)) rfl a
set_option maxRecDepth 100000 in
theorem sel_X2_readPart {s : State} {a : Array Value} (h : mT s) : (Cond.selects "ShareVault$Commands" yX2_readPart yX2_readPart).before a s = true := h _ (List.mem_append_left _ (List.mem_of_getElem? (l := k2_sels lw_privs) (i := 34) rfl)) rfl a
set_option maxRecDepth 100000 in
theorem sel_X2_readWord {s : State} {a : Array Value} (h : mT s) : (Cond.selects "ShareVault$Commands" yX2_readWord yX2_readWord).before a s = true := h _ (List.mem_append_left _ (List.mem_of_getElem? (l := k2_sels lw_privs) (i := 29) rfl)) rfl a
set_option maxRecDepth 100000 in
theorem sel_X5_dropOldest {s : State} {a : Array Value} (h : mT s) : (Cond.selects "ShareVault$Journal" yX5_dropOldest yX5_dropOldest).before a s = true := h _ (List.mem_append_left _ (List.mem_of_getElem? (l := k2_sels lw_privs) (i := 16) rfl)) rfl a
set_option maxRecDepth 100000 in
theorem sel_X6_quotientsOf {s : State} {a : Array Value} (h : mT s) : (Cond.selects "ShareVault$Keys" yX6_quotientsOf yX6_quotientsOf).before a s = true := h _ (List.mem_append_left _ (List.mem_of_getElem? (l := k2_sels lw_privs) (i := 5) rfl)) rfl a
set_option maxRecDepth 100000 in
theorem sel_X6_valueThrough {s : State} {a : Array Value} (h : mT s) : (Cond.selects "ShareVault$Keys" yX6_valueThrough yX6_valueThrough).before a s = true := h _ (List.mem_append_left _ (List.mem_of_getElem? (l := k2_sels lw_privs) (i := 4) rfl)) rfl a
set_option maxRecDepth 100000 in
theorem sel_X8_choose {s : State} {a : Array Value} (h : mT s) : (Cond.selects "ShareVault$Solver" yX8_choose yX8_choose).before a s = true := h _ (List.mem_append_left _ (List.mem_of_getElem? (l := k2_sels lw_privs) (i := 9) rfl)) rfl a
set_option maxRecDepth 100000 in
theorem sel_X8_countOnCurve {s : State} {a : Array Value} (h : mT s) : (Cond.selects "ShareVault$Solver" yX8_countOnCurve yX8_countOnCurve).before a s = true := h _ (List.mem_append_left _ (List.mem_of_getElem? (l := k2_sels lw_privs) (i := 10) rfl)) rfl a
set_option maxRecDepth 100000 in
theorem sel_X8_eliminate {s : State} {a : Array Value} (h : mT s) : (Cond.selects "ShareVault$Solver" yX8_eliminate yX8_eliminate).before a s = true := h _ (List.mem_append_left _ (List.mem_of_getElem? (l := k2_sels lw_privs) (i := 8) rfl)) rfl a
set_option maxRecDepth 100000 in
theorem sel_X8_fit {s : State} {a : Array Value} (h : mT s) : (Cond.selects "ShareVault$Solver" yX8_fit yX8_fit).before a s = true := h _ (List.mem_append_left _ (List.mem_of_getElem? (l := k2_sels lw_privs) (i := 6) rfl)) rfl a
set_option maxRecDepth 100000 in
theorem sel_X8_setEquation {s : State} {a : Array Value} (h : mT s) : (Cond.selects "ShareVault$Solver" yX8_setEquation yX8_setEquation).before a s = true := h _ (List.mem_append_left _ (List.mem_of_getElem? (l := k2_sels lw_privs) (i := 7) rfl)) rfl a
set_option maxRecDepth 100000 in
theorem sel_X9_enterAlarms {s : State} {a : Array Value} (h : mT s) : (Cond.selects "ShareVault$State" yX9_enterAlarms yX9_enterAlarms).before a s = true := h _ (List.mem_append_left _ (List.mem_of_getElem? (l := k2_sels lw_privs) (i := 17) rfl)) rfl a
set_option maxRecDepth 100000 in
theorem sel_X9_verdictOnAttempt {s : State} {a : Array Value} (h : mT s) : (Cond.selects "ShareVault$State" yX9_verdictOnAttempt yX9_verdictOnAttempt).before a s = true := h _ (List.mem_append_left _ (List.mem_of_getElem? (l := k2_sels lw_privs) (i := 15) rfl)) rfl a
set_option maxRecDepth 100000 in
theorem sel_X9_verdictOnOutcome {s : State} {a : Array Value} (h : mT s) : (Cond.selects "ShareVault$State" yX9_verdictOnOutcome yX9_verdictOnOutcome).before a s = true := h _ (List.mem_append_left _ (List.mem_of_getElem? (l := k2_sels lw_privs) (i := 38) rfl)) rfl a
set_option maxRecDepth 100000 in
theorem sel_X12_adds {s : State} {a : Array Value} (h : mT s) : (Cond.selects "ShareVaultModel" yX12_adds yX12_adds).before a s = true := h _ (List.mem_append_left _ (List.mem_of_getElem? (l := k2_sels lw_privs) (i := 40) rfl)) rfl a
set_option maxRecDepth 100000 in
theorem sel_X12_areEnough {s : State} {a : Array Value} (h : mT s) : (Cond.selects "ShareVaultModel" yX12_areEnough yX12_areEnough).before a s = true := h _ (List.mem_append_left _ (List.mem_of_getElem? (l := k2_sels lw_privs) (i := 70) rfl)) rfl a
set_option maxRecDepth 100000 in
theorem sel_X12_back {s : State} {a : Array Value} (h : mT s) : (Cond.selects "ShareVaultModel" yX12_back yX12_back).before a s = true := h _ (List.mem_append_left _ (List.mem_of_getElem? (l := k2_sels lw_privs) (i := 74) rfl)) rfl a
set_option maxRecDepth 100000 in
theorem sel_X12_changed {s : State} {a : Array Value} (h : mT s) : (Cond.selects "ShareVaultModel" yX12_changed yX12_changed).before a s = true := h _ (List.mem_append_left _ (List.mem_of_getElem? (l := k2_sels lw_privs) (i := 45) rfl)) rfl a
set_option maxRecDepth 100000 in
theorem sel_X12_clears {s : State} {a : Array Value} (h : mT s) : (Cond.selects "ShareVaultModel" yX12_clears yX12_clears).before a s = true := h _ (List.mem_append_left _ (List.mem_of_getElem? (l := k2_sels lw_privs) (i := 48) rfl)) rfl a
set_option maxRecDepth 100000 in
theorem sel_X12_closes {s : State} {a : Array Value} (h : mT s) : (Cond.selects "ShareVaultModel" yX12_closes yX12_closes).before a s = true := h _ (List.mem_append_left _ (List.mem_of_getElem? (l := k2_sels lw_privs) (i := 61) rfl)) rfl a
set_option maxRecDepth 100000 in
theorem sel_X12_curve {s : State} {a : Array Value} (h : mT s) : (Cond.selects "ShareVaultModel" yX12_curve yX12_curve).before a s = true := h _ (List.mem_append_left _ (List.mem_of_getElem? (l := k2_sels lw_privs) (i := 42) rfl)) rfl a
set_option maxRecDepth 100000 in
theorem sel_X12_does {s : State} {a : Array Value} (h : mT s) : (Cond.selects "ShareVaultModel" yX12_does yX12_does).before a s = true := h _ (List.mem_append_left _ (List.mem_of_getElem? (l := k2_sels lw_privs) (i := 84) rfl)) rfl a
set_option maxRecDepth 100000 in
theorem sel_X12_done {s : State} {a : Array Value} (h : mT s) : (Cond.selects "ShareVaultModel" yX12_done yX12_done).before a s = true := h _ (List.mem_append_left _ (List.mem_of_getElem? (l := k2_sels lw_privs) (i := 43) rfl)) rfl a
set_option maxRecDepth 100000 in
theorem sel_X12_ends {s : State} {a : Array Value} (h : mT s) : (Cond.selects "ShareVaultModel" yX12_ends yX12_ends).before a s = true := h _ (List.mem_append_left _ (List.mem_of_getElem? (l := k2_sels lw_privs) (i := 44) rfl)) rfl a
set_option maxRecDepth 100000 in
theorem sel_X12_entry {s : State} {a : Array Value} (h : mT s) : (Cond.selects "ShareVaultModel" yX12_entry yX12_entry).before a s = true := h _ (List.mem_append_left _ (List.mem_of_getElem? (l := k2_sels lw_privs) (i := 76) rfl)) rfl a
set_option maxRecDepth 100000 in
theorem sel_X12_fails {s : State} {a : Array Value} (h : mT s) : (Cond.selects "ShareVaultModel" yX12_fails yX12_fails).before a s = true := h _ (List.mem_append_left _ (List.mem_of_getElem? (l := k2_sels lw_privs) (i := 46) rfl)) rfl a
set_option maxRecDepth 100000 in
theorem sel_X12_guard {s : State} {a : Array Value} (h : mT s) : (Cond.selects "ShareVaultModel" yX12_guard yX12_guard).before a s = true := h _ (List.mem_append_left _ (List.mem_of_getElem? (l := k2_sels lw_privs) (i := 56) rfl)) rfl a
set_option maxRecDepth 100000 in
theorem sel_X12_guards {s : State} {a : Array Value} (h : mT s) : (Cond.selects "ShareVaultModel" yX12_guards yX12_guards).before a s = true := h _ (List.mem_append_left _ (List.mem_of_getElem? (l := k2_sels lw_privs) (i := 62) rfl)) rfl a
set_option maxRecDepth 100000 in
theorem sel_X12_here {s : State} {a : Array Value} (h : mT s) : (Cond.selects "ShareVaultModel" yX12_here yX12_here).before a s = true := h _ (List.mem_append_left _ (List.mem_of_getElem? (l := k2_sels lw_privs) (i := 78) rfl)) rfl a
set_option maxRecDepth 100000 in
theorem sel_X12_hums {s : State} {a : Array Value} (h : mT s) : (Cond.selects "ShareVaultModel" yX12_hums yX12_hums).before a s = true := h _ (List.mem_append_left _ (List.mem_of_getElem? (l := k2_sels lw_privs) (i := 65) rfl)) rfl a
set_option maxRecDepth 100000 in
theorem sel_X12_isAhead {s : State} {a : Array Value} (h : mT s) : (Cond.selects "ShareVaultModel" yX12_isAhead yX12_isAhead).before a s = true := h _ (List.mem_append_left _ (List.mem_of_getElem? (l := k2_sels lw_privs) (i := 75) rfl)) rfl a
set_option maxRecDepth 100000 in
theorem sel_X12_isAsked {s : State} {a : Array Value} (h : mT s) : (Cond.selects "ShareVaultModel" yX12_isAsked yX12_isAsked).before a s = true := h _ (List.mem_append_left _ (List.mem_of_getElem? (l := k2_sels lw_privs) (i := 72) rfl)) rfl a
set_option maxRecDepth 100000 in
theorem sel_X12_isGuard {s : State} {a : Array Value} (h : mT s) : (Cond.selects "ShareVaultModel" yX12_isGuard yX12_isGuard).before a s = true := h _ (List.mem_append_left _ (List.mem_of_getElem? (l := k2_sels lw_privs) (i := 64) rfl)) rfl a
set_option maxRecDepth 100000 in
theorem sel_X12_isHolder {s : State} {a : Array Value} (h : mT s) : (Cond.selects "ShareVaultModel" yX12_isHolder yX12_isHolder).before a s = true := h _ (List.mem_append_left _ (List.mem_of_getElem? (l := k2_sels lw_privs) (i := 50) rfl)) rfl a
set_option maxRecDepth 100000 in
theorem sel_X12_isIn {s : State} {a : Array Value} (h : mT s) : (Cond.selects "ShareVaultModel" yX12_isIn yX12_isIn).before a s = true := h _ (List.mem_append_left _ (List.mem_of_getElem? (l := k2_sels lw_privs) (i := 55) rfl)) rfl a
set_option maxRecDepth 100000 in
theorem sel_X12_isNear {s : State} {a : Array Value} (h : mT s) : (Cond.selects "ShareVaultModel" yX12_isNear yX12_isNear).before a s = true := h _ (List.mem_append_left _ (List.mem_of_getElem? (l := k2_sels lw_privs) (i := 68) rfl)) rfl a
set_option maxRecDepth 100000 in
theorem sel_X12_isShare {s : State} {a : Array Value} (h : mT s) : (Cond.selects "ShareVaultModel" yX12_isShare yX12_isShare).before a s = true := h _ (List.mem_append_left _ (List.mem_of_getElem? (l := k2_sels lw_privs) (i := 69) rfl)) rfl a
set_option maxRecDepth 100000 in
theorem sel_X12_logs {s : State} {a : Array Value} (h : mT s) : (Cond.selects "ShareVaultModel" yX12_logs yX12_logs).before a s = true := h _ (List.mem_append_left _ (List.mem_of_getElem? (l := k2_sels lw_privs) (i := 60) rfl)) rfl a
set_option maxRecDepth 100000 in
theorem sel_X12_most {s : State} {a : Array Value} (h : mT s) : (Cond.selects "ShareVaultModel" yX12_most yX12_most).before a s = true := h _ (List.mem_append_left _ (List.mem_of_getElem? (l := k2_sels lw_privs) (i := 71) rfl)) rfl a
set_option maxRecDepth 100000 in
theorem sel_X12_number {s : State} {a : Array Value} (h : mT s) : (Cond.selects "ShareVaultModel" yX12_number yX12_number).before a s = true := h _ (List.mem_append_left _ (List.mem_of_getElem? (l := k2_sels lw_privs) (i := 79) rfl)) rfl a
set_option maxRecDepth 100000 in
theorem sel_X12_onIt {s : State} {a : Array Value} (h : mT s) : (Cond.selects "ShareVaultModel" yX12_onIt yX12_onIt).before a s = true := h _ (List.mem_append_left _ (List.mem_of_getElem? (l := k2_sels lw_privs) (i := 58) rfl)) rfl a
set_option maxRecDepth 100000 in
theorem sel_X12_oneHour {s : State} {a : Array Value} (h : mT s) : (Cond.selects "ShareVaultModel" yX12_oneHour yX12_oneHour).before a s = true := h _ (List.mem_append_left _ (List.mem_of_getElem? (l := k2_sels lw_privs) (i := 67) rfl)) rfl a
set_option maxRecDepth 100000 in
theorem sel_X12_opens {s : State} {a : Array Value} (h : mT s) : (Cond.selects "ShareVaultModel" yX12_opens yX12_opens).before a s = true := h _ (List.mem_append_left _ (List.mem_of_getElem? (l := k2_sels lw_privs) (i := 85) rfl)) rfl a
set_option maxRecDepth 100000 in
theorem sel_X12_passes {s : State} {a : Array Value} (h : mT s) : (Cond.selects "ShareVaultModel" yX12_passes yX12_passes).before a s = true := h _ (List.mem_append_left _ (List.mem_of_getElem? (l := k2_sels lw_privs) (i := 66) rfl)) rfl a
set_option maxRecDepth 100000 in
theorem sel_X12_placeOf {s : State} {a : Array Value} (h : mT s) : (Cond.selects "ShareVaultModel" yX12_placeOf yX12_placeOf).before a s = true := h _ (List.mem_append_left _ (List.mem_of_getElem? (l := k2_sels lw_privs) (i := 52) rfl)) rfl a
set_option maxRecDepth 100000 in
theorem sel_X12_presents {s : State} {a : Array Value} (h : mT s) : (Cond.selects "ShareVaultModel" yX12_presents yX12_presents).before a s = true := h _ (List.mem_append_left _ (List.mem_of_getElem? (l := k2_sels lw_privs) (i := 51) rfl)) rfl a
set_option maxRecDepth 100000 in
theorem sel_X12_readsGuard {s : State} {a : Array Value} (h : mT s) : (Cond.selects "ShareVaultModel" yX12_readsGuard yX12_readsGuard).before a s = true := h _ (List.mem_append_left _ (List.mem_of_getElem? (l := k2_sels lw_privs) (i := 82) rfl)) rfl a
set_option maxRecDepth 100000 in
theorem sel_X12_readsOne {s : State} {a : Array Value} (h : mT s) : (Cond.selects "ShareVaultModel" yX12_readsOne yX12_readsOne).before a s = true := h _ (List.mem_append_left _ (List.mem_of_getElem? (l := k2_sels lw_privs) (i := 77) rfl)) rfl a
set_option maxRecDepth 100000 in
theorem sel_X12_readsSeal {s : State} {a : Array Value} (h : mT s) : (Cond.selects "ShareVaultModel" yX12_readsSeal yX12_readsSeal).before a s = true := h _ (List.mem_append_left _ (List.mem_of_getElem? (l := k2_sels lw_privs) (i := 81) rfl)) rfl a
set_option maxRecDepth 100000 in
theorem sel_X12_readsWait {s : State} {a : Array Value} (h : mT s) : (Cond.selects "ShareVaultModel" yX12_readsWait yX12_readsWait).before a s = true := h _ (List.mem_append_left _ (List.mem_of_getElem? (l := k2_sels lw_privs) (i := 83) rfl)) rfl a
set_option maxRecDepth 100000 in
theorem sel_X12_refused {s : State} {a : Array Value} (h : mT s) : (Cond.selects "ShareVaultModel" yX12_refused yX12_refused).before a s = true := h _ (List.mem_append_left _ (List.mem_of_getElem? (l := k2_sels lw_privs) (i := 41) rfl)) rfl a
set_option maxRecDepth 100000 in
theorem sel_X12_remembers {s : State} {a : Array Value} (h : mT s) : (Cond.selects "ShareVaultModel" yX12_remembers yX12_remembers).before a s = true := h _ (List.mem_append_left _ (List.mem_of_getElem? (l := k2_sels lw_privs) (i := 39) rfl)) rfl a
set_option maxRecDepth 100000 in
theorem sel_X12_says {s : State} {a : Array Value} (h : mT s) : (Cond.selects "ShareVaultModel" yX12_says yX12_says).before a s = true := h _ (List.mem_append_left _ (List.mem_of_getElem? (l := k2_sels lw_privs) (i := 80) rfl)) rfl a
set_option maxRecDepth 100000 in
theorem sel_X12_seals {s : State} {a : Array Value} (h : mT s) : (Cond.selects "ShareVaultModel" yX12_seals yX12_seals).before a s = true := h _ (List.mem_append_left _ (List.mem_of_getElem? (l := k2_sels lw_privs) (i := 47) rfl)) rfl a
set_option maxRecDepth 100000 in
theorem sel_X12_shares {s : State} {a : Array Value} (h : mT s) : (Cond.selects "ShareVaultModel" yX12_shares yX12_shares).before a s = true := h _ (List.mem_append_left _ (List.mem_of_getElem? (l := k2_sels lw_privs) (i := 49) rfl)) rfl a
set_option maxRecDepth 100000 in
theorem sel_X12_takes {s : State} {a : Array Value} (h : mT s) : (Cond.selects "ShareVaultModel" yX12_takes yX12_takes).before a s = true := h _ (List.mem_append_left _ (List.mem_of_getElem? (l := k2_sels lw_privs) (i := 53) rfl)) rfl a
set_option maxRecDepth 100000 in
theorem sel_X12_takesFirst {s : State} {a : Array Value} (h : mT s) : (Cond.selects "ShareVaultModel" yX12_takesFirst yX12_takesFirst).before a s = true := h _ (List.mem_append_left _ (List.mem_of_getElem? (l := k2_sels lw_privs) (i := 57) rfl)) rfl a
set_option maxRecDepth 100000 in
theorem sel_X12_thinks {s : State} {a : Array Value} (h : mT s) : (Cond.selects "ShareVaultModel" yX12_thinks yX12_thinks).before a s = true := h _ (List.mem_append_left _ (List.mem_of_getElem? (l := k2_sels lw_privs) (i := 73) rfl)) rfl a
set_option maxRecDepth 100000 in
theorem sel_X12_through {s : State} {a : Array Value} (h : mT s) : (Cond.selects "ShareVaultModel" yX12_through yX12_through).before a s = true := h _ (List.mem_append_left _ (List.mem_of_getElem? (l := k2_sels lw_privs) (i := 59) rfl)) rfl a
set_option maxRecDepth 100000 in
theorem sel_X12_tries {s : State} {a : Array Value} (h : mT s) : (Cond.selects "ShareVaultModel" yX12_tries yX12_tries).before a s = true := h _ (List.mem_append_left _ (List.mem_of_getElem? (l := k2_sels lw_privs) (i := 54) rfl)) rfl a
set_option maxRecDepth 100000 in
theorem sel_X12_turns {s : State} {a : Array Value} (h : mT s) : (Cond.selects "ShareVaultModel" yX12_turns yX12_turns).before a s = true := h _ (List.mem_append_left _ (List.mem_of_getElem? (l := k2_sels lw_privs) (i := 63) rfl)) rfl a
set_option maxRecDepth 100000 in
theorem sel_X12_writes {s : State} {a : Array Value} (h : mT s) : (Cond.selects "ShareVaultModel" yX12_writes yX12_writes).before a s = true := h _ (List.mem_append_left _ (List.mem_of_getElem? (l := k2_sels lw_privs) (i := 86) rfl)) rfl a
set_option maxRecDepth 100000 in
theorem sel_X12_writesNumber {s : State} {a : Array Value} (h : mT s) : (Cond.selects "ShareVaultModel" yX12_writesNumber yX12_writesNumber).before a s = true := h _ (List.mem_append_left _ (List.mem_of_getElem? (l := k2_sels lw_privs) (i := 87) rfl)) rfl a
