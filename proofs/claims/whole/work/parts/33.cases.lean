set_option maxRecDepth 100000 in
theorem q330 {s : State} {a : Array Value} (h : mT s) : (Jvm.Cond.methodLink "ShareVaultLaw" (210 : Nat) ({ cls := "ShareVault", name := "hour", desc := "()I" } : Jvm.MethodName)).before a s = true := h _ (tin2 (List.mem_of_getElem? (l := tables_1_2) (i := 90) rfl)) rfl a
set_option maxRecDepth 100000 in
theorem q331 {s : State} {a : Array Value} (h : mT s) : (Jvm.Cond.instanceMethod ({ cls := "ShareVault", name := "hour", desc := "()I" } : Jvm.MethodName)).before a s = true := h _ (tin2 (List.mem_of_getElem? (l := tables_1_2) (i := 91) rfl)) rfl a
set_option maxRecDepth 100000 in
theorem q332 {s : State} {a : Array Value} (h : mT s) : (Jvm.Cond.selects "ShareVault" ({ cls := "ShareVault", name := "hour", desc := "()I" } : Jvm.MethodName) ({ cls := "ShareVault", name := "hour", desc := "()I" } : Jvm.MethodName)).before a s = true := h _ (tin2 (List.mem_of_getElem? (l := tables_1_2) (i := 92) rfl)) rfl a
set_option maxRecDepth 100000 in
theorem q334 {s : State} {a : Array Value} (h : mT s) : (Jvm.Cond.methodLink "ShareVaultLaw" (214 : Nat) ({ cls := "ShareVault", name := "holderCount", desc := "()I" } : Jvm.MethodName)).before a s = true := h _ (tin2 (List.mem_of_getElem? (l := tables_1_2) (i := 94) rfl)) rfl a
set_option maxRecDepth 100000 in
theorem q335 {s : State} {a : Array Value} (h : mT s) : (Jvm.Cond.instanceMethod ({ cls := "ShareVault", name := "holderCount", desc := "()I" } : Jvm.MethodName)).before a s = true := h _ (tin2 (List.mem_of_getElem? (l := tables_1_2) (i := 95) rfl)) rfl a
set_option maxRecDepth 100000 in
theorem q336 {s : State} {a : Array Value} (h : mT s) : (Jvm.Cond.selects "ShareVault" ({ cls := "ShareVault", name := "holderCount", desc := "()I" } : Jvm.MethodName) ({ cls := "ShareVault", name := "holderCount", desc := "()I" } : Jvm.MethodName)).before a s = true := h _ (tin2 (List.mem_of_getElem? (l := tables_1_2) (i := 96) rfl)) rfl a
set_option maxRecDepth 100000 in
theorem q338 {s : State} {a : Array Value} (h : mT s) : (Jvm.Cond.methodLink "ShareVaultLaw" (218 : Nat) ({ cls := "ShareVault", name := "isSealed", desc := "()Z" } : Jvm.MethodName)).before a s = true := h _ (tin2 (List.mem_of_getElem? (l := tables_1_2) (i := 98) rfl)) rfl a
set_option maxRecDepth 100000 in
theorem q339 {s : State} {a : Array Value} (h : mT s) : (Jvm.Cond.instanceMethod ({ cls := "ShareVault", name := "isSealed", desc := "()Z" } : Jvm.MethodName)).before a s = true := h _ (tin2 (List.mem_of_getElem? (l := tables_1_2) (i := 99) rfl)) rfl a
set_option maxRecDepth 100000 in
theorem q340 {s : State} {a : Array Value} (h : mT s) : (Jvm.Cond.selects "ShareVault" ({ cls := "ShareVault", name := "isSealed", desc := "()Z" } : Jvm.MethodName) ({ cls := "ShareVault", name := "isSealed", desc := "()Z" } : Jvm.MethodName)).before a s = true := h _ (tin2 (List.mem_of_getElem? (l := tables_1_2) (i := 100) rfl)) rfl a
set_option maxRecDepth 100000 in
theorem q342 {s : State} {a : Array Value} (h : mT s) : (Jvm.Cond.methodLink "ShareVaultLaw" (234 : Nat) ({ cls := "ShareVault", name := "presentedCount", desc := "()I" } : Jvm.MethodName)).before a s = true := h _ (tin2 (List.mem_of_getElem? (l := tables_1_2) (i := 102) rfl)) rfl a
set_option maxRecDepth 100000 in
theorem q343 {s : State} {a : Array Value} (h : mT s) : (Jvm.Cond.instanceMethod ({ cls := "ShareVault", name := "presentedCount", desc := "()I" } : Jvm.MethodName)).before a s = true := h _ (tin2 (List.mem_of_getElem? (l := tables_1_2) (i := 103) rfl)) rfl a
set_option maxRecDepth 100000 in
theorem q344 {s : State} {a : Array Value} (h : mT s) : (Jvm.Cond.selects "ShareVault" ({ cls := "ShareVault", name := "presentedCount", desc := "()I" } : Jvm.MethodName) ({ cls := "ShareVault", name := "presentedCount", desc := "()I" } : Jvm.MethodName)).before a s = true := h _ (tin2 (List.mem_of_getElem? (l := tables_1_2) (i := 104) rfl)) rfl a
set_option maxRecDepth 100000 in
theorem q346 {s : State} {a : Array Value} (h : mT s) : (Jvm.Cond.methodLink "ShareVaultLaw" (259 : Nat) ({ cls := "ShareVault", name := "isOpen", desc := "()Z" } : Jvm.MethodName)).before a s = true := h _ (tin2 (List.mem_of_getElem? (l := tables_1_2) (i := 106) rfl)) rfl a
set_option maxRecDepth 100000 in
theorem q347 {s : State} {a : Array Value} (h : mT s) : (Jvm.Cond.instanceMethod ({ cls := "ShareVault", name := "isOpen", desc := "()Z" } : Jvm.MethodName)).before a s = true := h _ (tin2 (List.mem_of_getElem? (l := tables_1_2) (i := 107) rfl)) rfl a
set_option maxRecDepth 100000 in
theorem q348 {s : State} {a : Array Value} (h : mT s) : (Jvm.Cond.selects "ShareVault" ({ cls := "ShareVault", name := "isOpen", desc := "()Z" } : Jvm.MethodName) ({ cls := "ShareVault", name := "isOpen", desc := "()Z" } : Jvm.MethodName)).before a s = true := h _ (tin2 (List.mem_of_getElem? (l := tables_1_2) (i := 108) rfl)) rfl a
set_option maxRecDepth 100000 in
theorem q350 {s : State} {a : Array Value} (h : mT s) : (Jvm.Cond.methodLink "ShareVaultLaw" (263 : Nat) ({ cls := "ShareVault", name := "lockedHours", desc := "()I" } : Jvm.MethodName)).before a s = true := h _ (tin2 (List.mem_of_getElem? (l := tables_1_2) (i := 110) rfl)) rfl a
set_option maxRecDepth 100000 in
theorem q351 {s : State} {a : Array Value} (h : mT s) : (Jvm.Cond.instanceMethod ({ cls := "ShareVault", name := "lockedHours", desc := "()I" } : Jvm.MethodName)).before a s = true := h _ (tin2 (List.mem_of_getElem? (l := tables_1_2) (i := 111) rfl)) rfl a
set_option maxRecDepth 100000 in
theorem q352 {s : State} {a : Array Value} (h : mT s) : (Jvm.Cond.selects "ShareVault" ({ cls := "ShareVault", name := "lockedHours", desc := "()I" } : Jvm.MethodName) ({ cls := "ShareVault", name := "lockedHours", desc := "()I" } : Jvm.MethodName)).before a s = true := h _ (tin2 (List.mem_of_getElem? (l := tables_1_2) (i := 112) rfl)) rfl a
set_option maxRecDepth 100000 in
theorem q354 {s : State} {a : Array Value} (h : mT s) : (Jvm.Cond.methodLink "ShareVaultLaw" (267 : Nat) ({ cls := "ShareVault", name := "failedAttempts", desc := "()I" } : Jvm.MethodName)).before a s = true := h _ (tin2 (List.mem_of_getElem? (l := tables_1_2) (i := 114) rfl)) rfl a
set_option maxRecDepth 100000 in
theorem q355 {s : State} {a : Array Value} (h : mT s) : (Jvm.Cond.instanceMethod ({ cls := "ShareVault", name := "failedAttempts", desc := "()I" } : Jvm.MethodName)).before a s = true := h _ (tin2 (List.mem_of_getElem? (l := tables_1_2) (i := 115) rfl)) rfl a
set_option maxRecDepth 100000 in
theorem q356 {s : State} {a : Array Value} (h : mT s) : (Jvm.Cond.selects "ShareVault" ({ cls := "ShareVault", name := "failedAttempts", desc := "()I" } : Jvm.MethodName) ({ cls := "ShareVault", name := "failedAttempts", desc := "()I" } : Jvm.MethodName)).before a s = true := h _ (tin2 (List.mem_of_getElem? (l := tables_1_2) (i := 116) rfl)) rfl a
set_option maxRecDepth 100000 in
theorem q358 {s : State} {a : Array Value} (h : mT s) : (Jvm.Cond.methodLink "ShareVaultLaw" (271 : Nat) ({ cls := "ShareVault", name := "guardCount", desc := "()I" } : Jvm.MethodName)).before a s = true := h _ (tin2 (List.mem_of_getElem? (l := tables_1_2) (i := 118) rfl)) rfl a
set_option maxRecDepth 100000 in
theorem q359 {s : State} {a : Array Value} (h : mT s) : (Jvm.Cond.instanceMethod ({ cls := "ShareVault", name := "guardCount", desc := "()I" } : Jvm.MethodName)).before a s = true := h _ (tin2 (List.mem_of_getElem? (l := tables_1_2) (i := 119) rfl)) rfl a
set_option maxRecDepth 100000 in
theorem q360 {s : State} {a : Array Value} (h : mT s) : (Jvm.Cond.selects "ShareVault" ({ cls := "ShareVault", name := "guardCount", desc := "()I" } : Jvm.MethodName) ({ cls := "ShareVault", name := "guardCount", desc := "()I" } : Jvm.MethodName)).before a s = true := h _ (tin2 (List.mem_of_getElem? (l := tables_1_2) (i := 120) rfl)) rfl a
set_option maxRecDepth 100000 in
theorem q362 {s : State} {a : Array Value} (h : mT s) : (Jvm.Cond.methodLink "ShareVaultLaw" (302 : Nat) ({ cls := "ShareVault", name := "alarmCount", desc := "()I" } : Jvm.MethodName)).before a s = true := h _ (tin2 (List.mem_of_getElem? (l := tables_1_2) (i := 122) rfl)) rfl a
set_option maxRecDepth 100000 in
theorem q363 {s : State} {a : Array Value} (h : mT s) : (Jvm.Cond.instanceMethod ({ cls := "ShareVault", name := "alarmCount", desc := "()I" } : Jvm.MethodName)).before a s = true := h _ (tin2 (List.mem_of_getElem? (l := tables_1_2) (i := 123) rfl)) rfl a
set_option maxRecDepth 100000 in
theorem q364 {s : State} {a : Array Value} (h : mT s) : (Jvm.Cond.selects "ShareVault" ({ cls := "ShareVault", name := "alarmCount", desc := "()I" } : Jvm.MethodName) ({ cls := "ShareVault", name := "alarmCount", desc := "()I" } : Jvm.MethodName)).before a s = true := h _ (tin2 (List.mem_of_getElem? (l := tables_1_2) (i := 124) rfl)) rfl a
set_option maxRecDepth 100000 in
theorem q366 {s : State} {a : Array Value} (h : mT s) : (Jvm.Cond.methodLink "ShareVaultLaw" (306 : Nat) ({ cls := "ShareVault", name := "openingCount", desc := "()I" } : Jvm.MethodName)).before a s = true := h _ (tin2 (List.mem_of_getElem? (l := tables_1_2) (i := 126) rfl)) rfl a
set_option maxRecDepth 100000 in
theorem q367 {s : State} {a : Array Value} (h : mT s) : (Jvm.Cond.instanceMethod ({ cls := "ShareVault", name := "openingCount", desc := "()I" } : Jvm.MethodName)).before a s = true := h _ (tin2 (List.mem_of_getElem? (l := tables_1_2) (i := 127) rfl)) rfl a
set_option maxRecDepth 100000 in
theorem q368 {s : State} {a : Array Value} (h : mT s) : (Jvm.Cond.selects "ShareVault" ({ cls := "ShareVault", name := "openingCount", desc := "()I" } : Jvm.MethodName) ({ cls := "ShareVault", name := "openingCount", desc := "()I" } : Jvm.MethodName)).before a s = true := h _ (tin2 (List.mem_of_getElem? (l := tables_1_2) (i := 128) rfl)) rfl a
set_option maxRecDepth 100000 in
theorem q370 {s : State} {a : Array Value} (h : mT s) : (Jvm.Cond.methodLink "ShareVaultLaw" (310 : Nat) ({ cls := "ShareVault", name := "logCount", desc := "()I" } : Jvm.MethodName)).before a s = true := h _ (tin2 (List.mem_of_getElem? (l := tables_1_2) (i := 130) rfl)) rfl a
set_option maxRecDepth 100000 in
theorem q371 {s : State} {a : Array Value} (h : mT s) : (Jvm.Cond.instanceMethod ({ cls := "ShareVault", name := "logCount", desc := "()I" } : Jvm.MethodName)).before a s = true := h _ (tin2 (List.mem_of_getElem? (l := tables_1_2) (i := 131) rfl)) rfl a
set_option maxRecDepth 100000 in
theorem q372 {s : State} {a : Array Value} (h : mT s) : (Jvm.Cond.selects "ShareVault" ({ cls := "ShareVault", name := "logCount", desc := "()I" } : Jvm.MethodName) ({ cls := "ShareVault", name := "logCount", desc := "()I" } : Jvm.MethodName)).before a s = true := h _ (tin2 (List.mem_of_getElem? (l := tables_1_2) (i := 132) rfl)) rfl a
set_option maxRecDepth 100000 in
theorem q374 {s : State} {a : Array Value} (h : mT s) : (Jvm.Cond.methodLink "ShareVaultLaw" (323 : Nat) ({ cls := "ShareVault", name := "meanNoise", desc := "()D" } : Jvm.MethodName)).before a s = true := h _ (tin2 (List.mem_of_getElem? (l := tables_1_2) (i := 134) rfl)) rfl a
set_option maxRecDepth 100000 in
theorem q375 {s : State} {a : Array Value} (h : mT s) : (Jvm.Cond.instanceMethod ({ cls := "ShareVault", name := "meanNoise", desc := "()D" } : Jvm.MethodName)).before a s = true := h _ (tin2 (List.mem_of_getElem? (l := tables_1_2) (i := 135) rfl)) rfl a
set_option maxRecDepth 100000 in
theorem q376 {s : State} {a : Array Value} (h : mT s) : (Jvm.Cond.selects "ShareVault" ({ cls := "ShareVault", name := "meanNoise", desc := "()D" } : Jvm.MethodName) ({ cls := "ShareVault", name := "meanNoise", desc := "()D" } : Jvm.MethodName)).before a s = true := h _ (tin2 (List.mem_of_getElem? (l := tables_1_2) (i := 136) rfl)) rfl a
set_option maxRecDepth 100000 in
theorem q382 {s : State} {a : Array Value} (h : mT s) : (Jvm.Cond.methodLink "ShareVaultLaw" (332 : Nat) ({ cls := "ShareVault", name := "isConsistent", desc := "()Z" } : Jvm.MethodName)).before a s = true := h _ (tin2 (List.mem_of_getElem? (l := tables_1_2) (i := 142) rfl)) rfl a
set_option maxRecDepth 100000 in
theorem q383 {s : State} {a : Array Value} (h : mT s) : (Jvm.Cond.instanceMethod ({ cls := "ShareVault", name := "isConsistent", desc := "()Z" } : Jvm.MethodName)).before a s = true := h _ (tin2 (List.mem_of_getElem? (l := tables_1_2) (i := 143) rfl)) rfl a
set_option maxRecDepth 100000 in
theorem q384 {s : State} {a : Array Value} (h : mT s) : (Jvm.Cond.selects "ShareVault" ({ cls := "ShareVault", name := "isConsistent", desc := "()Z" } : Jvm.MethodName) ({ cls := "ShareVault", name := "isConsistent", desc := "()Z" } : Jvm.MethodName)).before a s = true := h _ (tin2 (List.mem_of_getElem? (l := tables_1_2) (i := 144) rfl)) rfl a
set_option maxRecDepth 100000 in
theorem q502 {s : State} {a : Array Value} (h : mT s) : (Jvm.Cond.methodLink "ShareVaultLaw" (355 : Nat) ({ cls := "ShareVault", name := "writeZones", desc := "()I" } : Jvm.MethodName)).before a s = true := h _ (tin3 (List.mem_of_getElem? (l := tables_1_3) (i := 22) rfl)) rfl a
set_option maxRecDepth 100000 in
theorem q503 {s : State} {a : Array Value} (h : mT s) : (Jvm.Cond.instanceMethod ({ cls := "ShareVault", name := "writeZones", desc := "()I" } : Jvm.MethodName)).before a s = true := h _ (tin3 (List.mem_of_getElem? (l := tables_1_3) (i := 23) rfl)) rfl a
set_option maxRecDepth 100000 in
theorem q504 {s : State} {a : Array Value} (h : mT s) : (Jvm.Cond.selects "ShareVault" ({ cls := "ShareVault", name := "writeZones", desc := "()I" } : Jvm.MethodName) ({ cls := "ShareVault", name := "writeZones", desc := "()I" } : Jvm.MethodName)).before a s = true := h _ (tin3 (List.mem_of_getElem? (l := tables_1_3) (i := 24) rfl)) rfl a
set_option maxRecDepth 100000 in
theorem q528 {s : State} {a : Array Value} (h : mT s) : (Jvm.Cond.methodLink "ShareVaultLaw" (359 : Nat) ({ cls := "ShareVault", name := "writeLog", desc := "()I" } : Jvm.MethodName)).before a s = true := h _ (tin3 (List.mem_of_getElem? (l := tables_1_3) (i := 48) rfl)) rfl a
set_option maxRecDepth 100000 in
theorem q529 {s : State} {a : Array Value} (h : mT s) : (Jvm.Cond.instanceMethod ({ cls := "ShareVault", name := "writeLog", desc := "()I" } : Jvm.MethodName)).before a s = true := h _ (tin3 (List.mem_of_getElem? (l := tables_1_3) (i := 49) rfl)) rfl a
set_option maxRecDepth 100000 in
theorem q530 {s : State} {a : Array Value} (h : mT s) : (Jvm.Cond.selects "ShareVault" ({ cls := "ShareVault", name := "writeLog", desc := "()I" } : Jvm.MethodName) ({ cls := "ShareVault", name := "writeLog", desc := "()I" } : Jvm.MethodName)).before a s = true := h _ (tin3 (List.mem_of_getElem? (l := tables_1_3) (i := 50) rfl)) rfl a
set_option maxRecDepth 100000 in
theorem q532 {s : State} {a : Array Value} (h : mT s) : (Jvm.Cond.methodLink "ShareVaultLaw" (366 : Nat) ({ cls := "ShareVault", name := "undoCount", desc := "()I" } : Jvm.MethodName)).before a s = true := h _ (tin3 (List.mem_of_getElem? (l := tables_1_3) (i := 52) rfl)) rfl a
set_option maxRecDepth 100000 in
theorem q533 {s : State} {a : Array Value} (h : mT s) : (Jvm.Cond.instanceMethod ({ cls := "ShareVault", name := "undoCount", desc := "()I" } : Jvm.MethodName)).before a s = true := h _ (tin3 (List.mem_of_getElem? (l := tables_1_3) (i := 53) rfl)) rfl a
set_option maxRecDepth 100000 in
theorem q534 {s : State} {a : Array Value} (h : mT s) : (Jvm.Cond.selects "ShareVault" ({ cls := "ShareVault", name := "undoCount", desc := "()I" } : Jvm.MethodName) ({ cls := "ShareVault", name := "undoCount", desc := "()I" } : Jvm.MethodName)).before a s = true := h _ (tin3 (List.mem_of_getElem? (l := tables_1_3) (i := 54) rfl)) rfl a
set_option maxRecDepth 100000 in
theorem q536 {s : State} {a : Array Value} (h : mT s) : (Jvm.Cond.methodLink "ShareVaultLaw" (373 : Nat) ({ cls := "ShareVault", name := "save", desc := "()I" } : Jvm.MethodName)).before a s = true := h _ (tin3 (List.mem_of_getElem? (l := tables_1_3) (i := 56) rfl)) rfl a
set_option maxRecDepth 100000 in
theorem q537 {s : State} {a : Array Value} (h : mT s) : (Jvm.Cond.instanceMethod ({ cls := "ShareVault", name := "save", desc := "()I" } : Jvm.MethodName)).before a s = true := h _ (tin3 (List.mem_of_getElem? (l := tables_1_3) (i := 57) rfl)) rfl a
set_option maxRecDepth 100000 in
theorem q538 {s : State} {a : Array Value} (h : mT s) : (Jvm.Cond.selects "ShareVault" ({ cls := "ShareVault", name := "save", desc := "()I" } : Jvm.MethodName) ({ cls := "ShareVault", name := "save", desc := "()I" } : Jvm.MethodName)).before a s = true := h _ (tin3 (List.mem_of_getElem? (l := tables_1_3) (i := 58) rfl)) rfl a
set_option maxRecDepth 100000 in
theorem q559 {s : State} {a : Array Value} (h : mT s) : (Jvm.Cond.methodLink "ShareVaultLaw" (167 : Nat) ({ cls := "ShareVaultLaw", name := "addHolder", desc := "(LShareVault;[J)I" } : Jvm.MethodName)).before a s = true := h _ (tin3 (List.mem_of_getElem? (l := tables_1_3) (i := 79) rfl)) rfl a
set_option maxRecDepth 100000 in
theorem q560 {s : State} {a : Array Value} (h : mT s) : (Jvm.Cond.static ({ cls := "ShareVaultLaw", name := "addHolder", desc := "(LShareVault;[J)I" } : Jvm.MethodName)).before a s = true := h _ (tin3 (List.mem_of_getElem? (l := tables_1_3) (i := 80) rfl)) rfl a
set_option maxRecDepth 100000 in
theorem q710 {s : State} {a : Array Value} (h : mT s) : (Jvm.Cond.methodLink "ShareVaultLaw" (176 : Nat) ({ cls := "ShareVaultLaw", name := "seal", desc := "(LShareVault;IIII[J)I" } : Jvm.MethodName)).before a s = true := h _ (tin3 (List.mem_of_getElem? (l := tables_1_3) (i := 230) rfl)) rfl a
set_option maxRecDepth 100000 in
theorem q711 {s : State} {a : Array Value} (h : mT s) : (Jvm.Cond.static ({ cls := "ShareVaultLaw", name := "seal", desc := "(LShareVault;IIII[J)I" } : Jvm.MethodName)).before a s = true := h _ (tin3 (List.mem_of_getElem? (l := tables_1_3) (i := 231) rfl)) rfl a
set_option maxRecDepth 100000 in
theorem q733 {s : State} {a : Array Value} (h : mT s) : (Jvm.Cond.methodLink "ShareVaultLaw" (180 : Nat) ({ cls := "ShareVaultLaw", name := "setShare", desc := "(LShareVault;II[J)I" } : Jvm.MethodName)).before a s = true := h _ (tin4 (List.mem_of_getElem? (l := tables_1_4) (i := 13) rfl)) rfl a
set_option maxRecDepth 100000 in
theorem q734 {s : State} {a : Array Value} (h : mT s) : (Jvm.Cond.static ({ cls := "ShareVaultLaw", name := "setShare", desc := "(LShareVault;II[J)I" } : Jvm.MethodName)).before a s = true := h _ (tin4 (List.mem_of_getElem? (l := tables_1_4) (i := 14) rfl)) rfl a
set_option maxRecDepth 100000 in
theorem q769 {s : State} {a : Array Value} (h : mT s) : (Jvm.Cond.methodLink "ShareVaultLaw" (184 : Nat) ({ cls := "ShareVaultLaw", name := "present", desc := "(LShareVault;I[J)I" } : Jvm.MethodName)).before a s = true := h _ (tin4 (List.mem_of_getElem? (l := tables_1_4) (i := 49) rfl)) rfl a
set_option maxRecDepth 100000 in
theorem q770 {s : State} {a : Array Value} (h : mT s) : (Jvm.Cond.static ({ cls := "ShareVaultLaw", name := "present", desc := "(LShareVault;I[J)I" } : Jvm.MethodName)).before a s = true := h _ (tin4 (List.mem_of_getElem? (l := tables_1_4) (i := 50) rfl)) rfl a
set_option maxRecDepth 100000 in
theorem q784 {s : State} {a : Array Value} (h : mT s) : (Jvm.Cond.methodLink "ShareVaultLaw" (188 : Nat) ({ cls := "ShareVaultLaw", name := "takeBack", desc := "(LShareVault;I[J)I" } : Jvm.MethodName)).before a s = true := h _ (tin4 (List.mem_of_getElem? (l := tables_1_4) (i := 64) rfl)) rfl a
set_option maxRecDepth 100000 in
theorem q785 {s : State} {a : Array Value} (h : mT s) : (Jvm.Cond.static ({ cls := "ShareVaultLaw", name := "takeBack", desc := "(LShareVault;I[J)I" } : Jvm.MethodName)).before a s = true := h _ (tin4 (List.mem_of_getElem? (l := tables_1_4) (i := 65) rfl)) rfl a
set_option maxRecDepth 100000 in
theorem q799 {s : State} {a : Array Value} (h : mT s) : (Jvm.Cond.methodLink "ShareVaultLaw" (191 : Nat) ({ cls := "ShareVaultLaw", name := "openVault", desc := "(LShareVault;[J)I" } : Jvm.MethodName)).before a s = true := h _ (tin4 (List.mem_of_getElem? (l := tables_1_4) (i := 79) rfl)) rfl a
set_option maxRecDepth 100000 in
theorem q800 {s : State} {a : Array Value} (h : mT s) : (Jvm.Cond.static ({ cls := "ShareVaultLaw", name := "openVault", desc := "(LShareVault;[J)I" } : Jvm.MethodName)).before a s = true := h _ (tin4 (List.mem_of_getElem? (l := tables_1_4) (i := 80) rfl)) rfl a
set_option maxRecDepth 100000 in
theorem q838 {s : State} {a : Array Value} (h : mT s) : (Jvm.Cond.methodLink "ShareVaultLaw" (194 : Nat) ({ cls := "ShareVaultLaw", name := "closeVault", desc := "(LShareVault;[J)I" } : Jvm.MethodName)).before a s = true := h _ (tin4 (List.mem_of_getElem? (l := tables_1_4) (i := 118) rfl)) rfl a
set_option maxRecDepth 100000 in
theorem q839 {s : State} {a : Array Value} (h : mT s) : (Jvm.Cond.static ({ cls := "ShareVaultLaw", name := "closeVault", desc := "(LShareVault;[J)I" } : Jvm.MethodName)).before a s = true := h _ (tin4 (List.mem_of_getElem? (l := tables_1_4) (i := 119) rfl)) rfl a
set_option maxRecDepth 100000 in
theorem q849 {s : State} {a : Array Value} (h : mT s) : (Jvm.Cond.methodLink "ShareVaultLaw" (197 : Nat) ({ cls := "ShareVaultLaw", name := "addGuard", desc := "(LShareVault;IZI[J)I" } : Jvm.MethodName)).before a s = true := h _ (tin4 (List.mem_of_getElem? (l := tables_1_4) (i := 129) rfl)) rfl a
set_option maxRecDepth 100000 in
theorem q850 {s : State} {a : Array Value} (h : mT s) : (Jvm.Cond.static ({ cls := "ShareVaultLaw", name := "addGuard", desc := "(LShareVault;IZI[J)I" } : Jvm.MethodName)).before a s = true := h _ (tin4 (List.mem_of_getElem? (l := tables_1_4) (i := 130) rfl)) rfl a
set_option maxRecDepth 100000 in
theorem q867 {s : State} {a : Array Value} (h : mT s) : (Jvm.Cond.methodLink "ShareVaultLaw" (201 : Nat) ({ cls := "ShareVaultLaw", name := "turnGuard", desc := "(LShareVault;I[J)I" } : Jvm.MethodName)).before a s = true := h _ (tin4 (List.mem_of_getElem? (l := tables_1_4) (i := 147) rfl)) rfl a
set_option maxRecDepth 100000 in
theorem q868 {s : State} {a : Array Value} (h : mT s) : (Jvm.Cond.static ({ cls := "ShareVaultLaw", name := "turnGuard", desc := "(LShareVault;I[J)I" } : Jvm.MethodName)).before a s = true := h _ (tin4 (List.mem_of_getElem? (l := tables_1_4) (i := 148) rfl)) rfl a
set_option maxRecDepth 100000 in
theorem q882 {s : State} {a : Array Value} (h : mT s) : (Jvm.Cond.methodLink "ShareVaultLaw" (204 : Nat) ({ cls := "ShareVaultLaw", name := "hum", desc := "(LShareVault;II[J)I" } : Jvm.MethodName)).before a s = true := h _ (tin4 (List.mem_of_getElem? (l := tables_1_4) (i := 162) rfl)) rfl a
set_option maxRecDepth 100000 in
theorem q883 {s : State} {a : Array Value} (h : mT s) : (Jvm.Cond.static ({ cls := "ShareVaultLaw", name := "hum", desc := "(LShareVault;II[J)I" } : Jvm.MethodName)).before a s = true := h _ (tin4 (List.mem_of_getElem? (l := tables_1_4) (i := 163) rfl)) rfl a
set_option maxRecDepth 100000 in
theorem q894 {s : State} {a : Array Value} (h : mT s) : (Jvm.Cond.methodLink "ShareVaultLaw" (207 : Nat) ({ cls := "ShareVaultLaw", name := "passHours", desc := "(LShareVault;I[J)I" } : Jvm.MethodName)).before a s = true := h _ (tin4 (List.mem_of_getElem? (l := tables_1_4) (i := 174) rfl)) rfl a
set_option maxRecDepth 100000 in
theorem q895 {s : State} {a : Array Value} (h : mT s) : (Jvm.Cond.static ({ cls := "ShareVaultLaw", name := "passHours", desc := "(LShareVault;I[J)I" } : Jvm.MethodName)).before a s = true := h _ (tin4 (List.mem_of_getElem? (l := tables_1_4) (i := 175) rfl)) rfl a
set_option maxRecDepth 100000 in
theorem q923 {s : State} {a : Array Value} (h : mT s) : (Jvm.Cond.methodLink "ShareVaultLaw" (222 : Nat) ({ cls := "ShareVaultLaw", name := "threshold", desc := "(LShareVault;[J)I" } : Jvm.MethodName)).before a s = true := h _ (tin4 (List.mem_of_getElem? (l := tables_1_4) (i := 203) rfl)) rfl a
set_option maxRecDepth 100000 in
theorem q924 {s : State} {a : Array Value} (h : mT s) : (Jvm.Cond.static ({ cls := "ShareVaultLaw", name := "threshold", desc := "(LShareVault;[J)I" } : Jvm.MethodName)).before a s = true := h _ (tin4 (List.mem_of_getElem? (l := tables_1_4) (i := 204) rfl)) rfl a
set_option maxRecDepth 100000 in
theorem q951 {s : State} {a : Array Value} (h : mT s) : (Jvm.Cond.methodLink "ShareVaultLaw" (225 : Nat) ({ cls := "ShareVaultLaw", name := "share", desc := "(LShareVault;I[J)I" } : Jvm.MethodName)).before a s = true := h _ (tin4 (List.mem_of_getElem? (l := tables_1_4) (i := 231) rfl)) rfl a
set_option maxRecDepth 100000 in
theorem q952 {s : State} {a : Array Value} (h : mT s) : (Jvm.Cond.static ({ cls := "ShareVaultLaw", name := "share", desc := "(LShareVault;I[J)I" } : Jvm.MethodName)).before a s = true := h _ (tin4 (List.mem_of_getElem? (l := tables_1_4) (i := 232) rfl)) rfl a
set_option maxRecDepth 100000 in
theorem q964 {s : State} {a : Array Value} (h : mT s) : (Jvm.Cond.methodLink "ShareVaultLaw" (228 : Nat) ({ cls := "ShareVaultLaw", name := "isCorrect", desc := "(LShareVault;I[J)I" } : Jvm.MethodName)).before a s = true := h _ (tin5 (List.mem_of_getElem? (l := tables_1_5) (i := 4) rfl)) rfl a
set_option maxRecDepth 100000 in
theorem q965 {s : State} {a : Array Value} (h : mT s) : (Jvm.Cond.static ({ cls := "ShareVaultLaw", name := "isCorrect", desc := "(LShareVault;I[J)I" } : Jvm.MethodName)).before a s = true := h _ (tin5 (List.mem_of_getElem? (l := tables_1_5) (i := 5) rfl)) rfl a
set_option maxRecDepth 100000 in
theorem q972 {s : State} {a : Array Value} (h : mT s) : (Jvm.Cond.methodLink "ShareVaultLaw" (231 : Nat) ({ cls := "ShareVaultLaw", name := "isPresented", desc := "(LShareVault;I[J)I" } : Jvm.MethodName)).before a s = true := h _ (tin5 (List.mem_of_getElem? (l := tables_1_5) (i := 12) rfl)) rfl a
set_option maxRecDepth 100000 in
theorem q973 {s : State} {a : Array Value} (h : mT s) : (Jvm.Cond.static ({ cls := "ShareVaultLaw", name := "isPresented", desc := "(LShareVault;I[J)I" } : Jvm.MethodName)).before a s = true := h _ (tin5 (List.mem_of_getElem? (l := tables_1_5) (i := 13) rfl)) rfl a
set_option maxRecDepth 100000 in
theorem q980 {s : State} {a : Array Value} (h : mT s) : (Jvm.Cond.methodLink "ShareVaultLaw" (238 : Nat) ({ cls := "ShareVaultLaw", name := "presentedAt", desc := "(LShareVault;I[J)I" } : Jvm.MethodName)).before a s = true := h _ (tin5 (List.mem_of_getElem? (l := tables_1_5) (i := 20) rfl)) rfl a
set_option maxRecDepth 100000 in
theorem q981 {s : State} {a : Array Value} (h : mT s) : (Jvm.Cond.static ({ cls := "ShareVaultLaw", name := "presentedAt", desc := "(LShareVault;I[J)I" } : Jvm.MethodName)).before a s = true := h _ (tin5 (List.mem_of_getElem? (l := tables_1_5) (i := 21) rfl)) rfl a
set_option maxRecDepth 100000 in
theorem q988 {s : State} {a : Array Value} (h : mT s) : (Jvm.Cond.methodLink "ShareVaultLaw" (241 : Nat) ({ cls := "ShareVaultLaw", name := "toldSecret", desc := "(LShareVault;[J)I" } : Jvm.MethodName)).before a s = true := h _ (tin5 (List.mem_of_getElem? (l := tables_1_5) (i := 28) rfl)) rfl a
set_option maxRecDepth 100000 in
theorem q989 {s : State} {a : Array Value} (h : mT s) : (Jvm.Cond.static ({ cls := "ShareVaultLaw", name := "toldSecret", desc := "(LShareVault;[J)I" } : Jvm.MethodName)).before a s = true := h _ (tin5 (List.mem_of_getElem? (l := tables_1_5) (i := 29) rfl)) rfl a
set_option maxRecDepth 100000 in
theorem q1000 {s : State} {a : Array Value} (h : mT s) : (Jvm.Cond.methodLink "ShareVaultLaw" (244 : Nat) ({ cls := "ShareVaultLaw", name := "toldSecretByElimination", desc := "(LShareVault;[J)I" } : Jvm.MethodName)).before a s = true := h _ (tin5 (List.mem_of_getElem? (l := tables_1_5) (i := 40) rfl)) rfl a
set_option maxRecDepth 100000 in
theorem q1001 {s : State} {a : Array Value} (h : mT s) : (Jvm.Cond.static ({ cls := "ShareVaultLaw", name := "toldSecretByElimination", desc := "(LShareVault;[J)I" } : Jvm.MethodName)).before a s = true := h _ (tin5 (List.mem_of_getElem? (l := tables_1_5) (i := 41) rfl)) rfl a
set_option maxRecDepth 100000 in
theorem q1007 {s : State} {a : Array Value} (h : mT s) : (Jvm.Cond.methodLink "ShareVaultLaw" (247 : Nat) ({ cls := "ShareVaultLaw", name := "toldValue", desc := "(LShareVault;I[J)I" } : Jvm.MethodName)).before a s = true := h _ (tin5 (List.mem_of_getElem? (l := tables_1_5) (i := 47) rfl)) rfl a
set_option maxRecDepth 100000 in
theorem q1008 {s : State} {a : Array Value} (h : mT s) : (Jvm.Cond.static ({ cls := "ShareVaultLaw", name := "toldValue", desc := "(LShareVault;I[J)I" } : Jvm.MethodName)).before a s = true := h _ (tin5 (List.mem_of_getElem? (l := tables_1_5) (i := 48) rfl)) rfl a
set_option maxRecDepth 100000 in
theorem q1015 {s : State} {a : Array Value} (h : mT s) : (Jvm.Cond.methodLink "ShareVaultLaw" (250 : Nat) ({ cls := "ShareVaultLaw", name := "doAgree", desc := "(LShareVault;[J)I" } : Jvm.MethodName)).before a s = true := h _ (tin5 (List.mem_of_getElem? (l := tables_1_5) (i := 55) rfl)) rfl a
set_option maxRecDepth 100000 in
theorem q1016 {s : State} {a : Array Value} (h : mT s) : (Jvm.Cond.static ({ cls := "ShareVaultLaw", name := "doAgree", desc := "(LShareVault;[J)I" } : Jvm.MethodName)).before a s = true := h _ (tin5 (List.mem_of_getElem? (l := tables_1_5) (i := 56) rfl)) rfl a
set_option maxRecDepth 100000 in
theorem q1026 {s : State} {a : Array Value} (h : mT s) : (Jvm.Cond.methodLink "ShareVaultLaw" (253 : Nat) ({ cls := "ShareVaultLaw", name := "mostAgreeing", desc := "(LShareVault;[J)I" } : Jvm.MethodName)).before a s = true := h _ (tin5 (List.mem_of_getElem? (l := tables_1_5) (i := 66) rfl)) rfl a
set_option maxRecDepth 100000 in
theorem q1027 {s : State} {a : Array Value} (h : mT s) : (Jvm.Cond.static ({ cls := "ShareVaultLaw", name := "mostAgreeing", desc := "(LShareVault;[J)I" } : Jvm.MethodName)).before a s = true := h _ (tin5 (List.mem_of_getElem? (l := tables_1_5) (i := 67) rfl)) rfl a
set_option maxRecDepth 100000 in
theorem q1033 {s : State} {a : Array Value} (h : mT s) : (Jvm.Cond.methodLink "ShareVaultLaw" (256 : Nat) ({ cls := "ShareVaultLaw", name := "mostAgreeingBySets", desc := "(LShareVault;[J)I" } : Jvm.MethodName)).before a s = true := h _ (tin5 (List.mem_of_getElem? (l := tables_1_5) (i := 73) rfl)) rfl a
set_option maxRecDepth 100000 in
theorem q1034 {s : State} {a : Array Value} (h : mT s) : (Jvm.Cond.static ({ cls := "ShareVaultLaw", name := "mostAgreeingBySets", desc := "(LShareVault;[J)I" } : Jvm.MethodName)).before a s = true := h _ (tin5 (List.mem_of_getElem? (l := tables_1_5) (i := 74) rfl)) rfl a
set_option maxRecDepth 100000 in
theorem q1040 {s : State} {a : Array Value} (h : mT s) : (Jvm.Cond.methodLink "ShareVaultLaw" (275 : Nat) ({ cls := "ShareVaultLaw", name := "zoneOf", desc := "(LShareVault;I[J)I" } : Jvm.MethodName)).before a s = true := h _ (tin5 (List.mem_of_getElem? (l := tables_1_5) (i := 80) rfl)) rfl a
set_option maxRecDepth 100000 in
theorem q1041 {s : State} {a : Array Value} (h : mT s) : (Jvm.Cond.static ({ cls := "ShareVaultLaw", name := "zoneOf", desc := "(LShareVault;I[J)I" } : Jvm.MethodName)).before a s = true := h _ (tin5 (List.mem_of_getElem? (l := tables_1_5) (i := 81) rfl)) rfl a
set_option maxRecDepth 100000 in
theorem q1053 {s : State} {a : Array Value} (h : mT s) : (Jvm.Cond.methodLink "ShareVaultLaw" (278 : Nat) ({ cls := "ShareVaultLaw", name := "isForwards", desc := "(LShareVault;I[J)I" } : Jvm.MethodName)).before a s = true := h _ (tin5 (List.mem_of_getElem? (l := tables_1_5) (i := 93) rfl)) rfl a
set_option maxRecDepth 100000 in
theorem q1054 {s : State} {a : Array Value} (h : mT s) : (Jvm.Cond.static ({ cls := "ShareVaultLaw", name := "isForwards", desc := "(LShareVault;I[J)I" } : Jvm.MethodName)).before a s = true := h _ (tin5 (List.mem_of_getElem? (l := tables_1_5) (i := 94) rfl)) rfl a
set_option maxRecDepth 100000 in
theorem q1060 {s : State} {a : Array Value} (h : mT s) : (Jvm.Cond.methodLink "ShareVaultLaw" (281 : Nat) ({ cls := "ShareVaultLaw", name := "noise", desc := "(LShareVault;I[J)I" } : Jvm.MethodName)).before a s = true := h _ (tin5 (List.mem_of_getElem? (l := tables_1_5) (i := 100) rfl)) rfl a
set_option maxRecDepth 100000 in
theorem q1061 {s : State} {a : Array Value} (h : mT s) : (Jvm.Cond.static ({ cls := "ShareVaultLaw", name := "noise", desc := "(LShareVault;I[J)I" } : Jvm.MethodName)).before a s = true := h _ (tin5 (List.mem_of_getElem? (l := tables_1_5) (i := 101) rfl)) rfl a
set_option maxRecDepth 100000 in
theorem q1073 {s : State} {a : Array Value} (h : mT s) : (Jvm.Cond.methodLink "ShareVaultLaw" (284 : Nat) ({ cls := "ShareVaultLaw", name := "isGuarded", desc := "(LShareVault;I[J)I" } : Jvm.MethodName)).before a s = true := h _ (tin5 (List.mem_of_getElem? (l := tables_1_5) (i := 113) rfl)) rfl a
set_option maxRecDepth 100000 in
theorem q1074 {s : State} {a : Array Value} (h : mT s) : (Jvm.Cond.static ({ cls := "ShareVaultLaw", name := "isGuarded", desc := "(LShareVault;I[J)I" } : Jvm.MethodName)).before a s = true := h _ (tin5 (List.mem_of_getElem? (l := tables_1_5) (i := 114) rfl)) rfl a
set_option maxRecDepth 100000 in
theorem q1081 {s : State} {a : Array Value} (h : mT s) : (Jvm.Cond.methodLink "ShareVaultLaw" (287 : Nat) ({ cls := "ShareVaultLaw", name := "hoursUntilVisit", desc := "(LShareVault;I[J)I" } : Jvm.MethodName)).before a s = true := h _ (tin5 (List.mem_of_getElem? (l := tables_1_5) (i := 121) rfl)) rfl a
set_option maxRecDepth 100000 in
theorem q1082 {s : State} {a : Array Value} (h : mT s) : (Jvm.Cond.static ({ cls := "ShareVaultLaw", name := "hoursUntilVisit", desc := "(LShareVault;I[J)I" } : Jvm.MethodName)).before a s = true := h _ (tin5 (List.mem_of_getElem? (l := tables_1_5) (i := 122) rfl)) rfl a
set_option maxRecDepth 100000 in
theorem q1093 {s : State} {a : Array Value} (h : mT s) : (Jvm.Cond.methodLink "ShareVaultLaw" (290 : Nat) ({ cls := "ShareVaultLaw", name := "hoursUntilVisitByRemainders", desc := "(LShareVault;I[J)I" } : Jvm.MethodName)).before a s = true := h _ (tin5 (List.mem_of_getElem? (l := tables_1_5) (i := 133) rfl)) rfl a
set_option maxRecDepth 100000 in
theorem q1094 {s : State} {a : Array Value} (h : mT s) : (Jvm.Cond.static ({ cls := "ShareVaultLaw", name := "hoursUntilVisitByRemainders", desc := "(LShareVault;I[J)I" } : Jvm.MethodName)).before a s = true := h _ (tin5 (List.mem_of_getElem? (l := tables_1_5) (i := 134) rfl)) rfl a
set_option maxRecDepth 100000 in
theorem q1100 {s : State} {a : Array Value} (h : mT s) : (Jvm.Cond.methodLink "ShareVaultLaw" (293 : Nat) ({ cls := "ShareVaultLaw", name := "alarmsIn", desc := "(LShareVault;I[J)I" } : Jvm.MethodName)).before a s = true := h _ (tin5 (List.mem_of_getElem? (l := tables_1_5) (i := 140) rfl)) rfl a
set_option maxRecDepth 100000 in
theorem q1101 {s : State} {a : Array Value} (h : mT s) : (Jvm.Cond.static ({ cls := "ShareVaultLaw", name := "alarmsIn", desc := "(LShareVault;I[J)I" } : Jvm.MethodName)).before a s = true := h _ (tin5 (List.mem_of_getElem? (l := tables_1_5) (i := 141) rfl)) rfl a
set_option maxRecDepth 100000 in
theorem q1109 {s : State} {a : Array Value} (h : mT s) : (Jvm.Cond.methodLink "ShareVaultLaw" (296 : Nat) ({ cls := "ShareVaultLaw", name := "zoneByNoise", desc := "(LShareVault;I[J)I" } : Jvm.MethodName)).before a s = true := h _ (tin5 (List.mem_of_getElem? (l := tables_1_5) (i := 149) rfl)) rfl a
set_option maxRecDepth 100000 in
theorem q1110 {s : State} {a : Array Value} (h : mT s) : (Jvm.Cond.static ({ cls := "ShareVaultLaw", name := "zoneByNoise", desc := "(LShareVault;I[J)I" } : Jvm.MethodName)).before a s = true := h _ (tin5 (List.mem_of_getElem? (l := tables_1_5) (i := 150) rfl)) rfl a
set_option maxRecDepth 100000 in
theorem q1129 {s : State} {a : Array Value} (h : mT s) : (Jvm.Cond.methodLink "ShareVaultLaw" (299 : Nat) ({ cls := "ShareVaultLaw", name := "alarmsOf", desc := "(LShareVault;I[J)I" } : Jvm.MethodName)).before a s = true := h _ (tin5 (List.mem_of_getElem? (l := tables_1_5) (i := 169) rfl)) rfl a
set_option maxRecDepth 100000 in
theorem q1130 {s : State} {a : Array Value} (h : mT s) : (Jvm.Cond.static ({ cls := "ShareVaultLaw", name := "alarmsOf", desc := "(LShareVault;I[J)I" } : Jvm.MethodName)).before a s = true := h _ (tin5 (List.mem_of_getElem? (l := tables_1_5) (i := 170) rfl)) rfl a
set_option maxRecDepth 100000 in
theorem q1136 {s : State} {a : Array Value} (h : mT s) : (Jvm.Cond.methodLink "ShareVaultLaw" (314 : Nat) ({ cls := "ShareVaultLaw", name := "logHour", desc := "(LShareVault;I[J)I" } : Jvm.MethodName)).before a s = true := h _ (tin5 (List.mem_of_getElem? (l := tables_1_5) (i := 176) rfl)) rfl a
set_option maxRecDepth 100000 in
theorem q1137 {s : State} {a : Array Value} (h : mT s) : (Jvm.Cond.static ({ cls := "ShareVaultLaw", name := "logHour", desc := "(LShareVault;I[J)I" } : Jvm.MethodName)).before a s = true := h _ (tin5 (List.mem_of_getElem? (l := tables_1_5) (i := 177) rfl)) rfl a
set_option maxRecDepth 100000 in
theorem q1148 {s : State} {a : Array Value} (h : mT s) : (Jvm.Cond.methodLink "ShareVaultLaw" (317 : Nat) ({ cls := "ShareVaultLaw", name := "logKind", desc := "(LShareVault;I[J)I" } : Jvm.MethodName)).before a s = true := h _ (tin5 (List.mem_of_getElem? (l := tables_1_5) (i := 188) rfl)) rfl a
set_option maxRecDepth 100000 in
theorem q1149 {s : State} {a : Array Value} (h : mT s) : (Jvm.Cond.static ({ cls := "ShareVaultLaw", name := "logKind", desc := "(LShareVault;I[J)I" } : Jvm.MethodName)).before a s = true := h _ (tin5 (List.mem_of_getElem? (l := tables_1_5) (i := 189) rfl)) rfl a
set_option maxRecDepth 100000 in
theorem q1155 {s : State} {a : Array Value} (h : mT s) : (Jvm.Cond.methodLink "ShareVaultLaw" (320 : Nat) ({ cls := "ShareVaultLaw", name := "logDetail", desc := "(LShareVault;I[J)I" } : Jvm.MethodName)).before a s = true := h _ (tin5 (List.mem_of_getElem? (l := tables_1_5) (i := 195) rfl)) rfl a
set_option maxRecDepth 100000 in
theorem q1156 {s : State} {a : Array Value} (h : mT s) : (Jvm.Cond.static ({ cls := "ShareVaultLaw", name := "logDetail", desc := "(LShareVault;I[J)I" } : Jvm.MethodName)).before a s = true := h _ (tin5 (List.mem_of_getElem? (l := tables_1_5) (i := 196) rfl)) rfl a
set_option maxRecDepth 100000 in
theorem q1162 {s : State} {a : Array Value} (h : mT s) : (Jvm.Cond.methodLink "ShareVaultLaw" (328 : Nat) ({ cls := "ShareVaultLaw", name := "alarmShare", desc := "(LShareVault;I[D)I" } : Jvm.MethodName)).before a s = true := h _ (tin5 (List.mem_of_getElem? (l := tables_1_5) (i := 202) rfl)) rfl a
set_option maxRecDepth 100000 in
theorem q1163 {s : State} {a : Array Value} (h : mT s) : (Jvm.Cond.static ({ cls := "ShareVaultLaw", name := "alarmShare", desc := "(LShareVault;I[D)I" } : Jvm.MethodName)).before a s = true := h _ (tin5 (List.mem_of_getElem? (l := tables_1_5) (i := 203) rfl)) rfl a
set_option maxRecDepth 100000 in
theorem q1186 {s : State} {a : Array Value} (h : mT s) : (Jvm.Cond.methodLink "ShareVaultLaw" (336 : Nat) ({ cls := "ShareVaultLaw", name := "refusalReason", desc := "(LShareVault;[J)I" } : Jvm.MethodName)).before a s = true := h _ (tin5 (List.mem_of_getElem? (l := tables_1_5) (i := 226) rfl)) rfl a
set_option maxRecDepth 100000 in
theorem q1187 {s : State} {a : Array Value} (h : mT s) : (Jvm.Cond.static ({ cls := "ShareVaultLaw", name := "refusalReason", desc := "(LShareVault;[J)I" } : Jvm.MethodName)).before a s = true := h _ (tin5 (List.mem_of_getElem? (l := tables_1_5) (i := 227) rfl)) rfl a
set_option maxRecDepth 100000 in
theorem q1198 {s : State} {a : Array Value} (h : mT s) : (Jvm.Cond.methodLink "ShareVaultLaw" (339 : Nat) ({ cls := "ShareVaultLaw", name := "refusalDetail", desc := "(LShareVault;[J)I" } : Jvm.MethodName)).before a s = true := h _ (tin5 (List.mem_of_getElem? (l := tables_1_5) (i := 238) rfl)) rfl a
set_option maxRecDepth 100000 in
theorem q1199 {s : State} {a : Array Value} (h : mT s) : (Jvm.Cond.static ({ cls := "ShareVaultLaw", name := "refusalDetail", desc := "(LShareVault;[J)I" } : Jvm.MethodName)).before a s = true := h _ (tin5 (List.mem_of_getElem? (l := tables_1_5) (i := 239) rfl)) rfl a
set_option maxRecDepth 100000 in
theorem q1205 {s : State} {a : Array Value} (h : mT s) : (Jvm.Cond.methodLink "ShareVaultLaw" (342 : Nat) ({ cls := "ShareVaultLaw", name := "refusalCause", desc := "(LShareVault;[J)I" } : Jvm.MethodName)).before a s = true := h _ (tin6 (List.mem_of_getElem? (l := tables_1_6) (i := 5) rfl)) rfl a
set_option maxRecDepth 100000 in
theorem q1206 {s : State} {a : Array Value} (h : mT s) : (Jvm.Cond.static ({ cls := "ShareVaultLaw", name := "refusalCause", desc := "(LShareVault;[J)I" } : Jvm.MethodName)).before a s = true := h _ (tin6 (List.mem_of_getElem? (l := tables_1_6) (i := 6) rfl)) rfl a
set_option maxRecDepth 100000 in
theorem q1213 {s : State} {a : Array Value} (h : mT s) : (Jvm.Cond.methodLink "ShareVaultLaw" (345 : Nat) ({ cls := "ShareVaultLaw", name := "feed", desc := "(LShareVault;C[J)I" } : Jvm.MethodName)).before a s = true := h _ (tin6 (List.mem_of_getElem? (l := tables_1_6) (i := 13) rfl)) rfl a
set_option maxRecDepth 100000 in
theorem q1214 {s : State} {a : Array Value} (h : mT s) : (Jvm.Cond.static ({ cls := "ShareVaultLaw", name := "feed", desc := "(LShareVault;C[J)I" } : Jvm.MethodName)).before a s = true := h _ (tin6 (List.mem_of_getElem? (l := tables_1_6) (i := 14) rfl)) rfl a
set_option maxRecDepth 100000 in
theorem q1241 {s : State} {a : Array Value} (h : mT s) : (Jvm.Cond.methodLink "ShareVaultLaw" (349 : Nat) ({ cls := "ShareVaultLaw", name := "runCommands", desc := "(LShareVault;[J)I" } : Jvm.MethodName)).before a s = true := h _ (tin6 (List.mem_of_getElem? (l := tables_1_6) (i := 41) rfl)) rfl a
set_option maxRecDepth 100000 in
theorem q1242 {s : State} {a : Array Value} (h : mT s) : (Jvm.Cond.static ({ cls := "ShareVaultLaw", name := "runCommands", desc := "(LShareVault;[J)I" } : Jvm.MethodName)).before a s = true := h _ (tin6 (List.mem_of_getElem? (l := tables_1_6) (i := 42) rfl)) rfl a
set_option maxRecDepth 100000 in
theorem q1380 {s : State} {a : Array Value} (h : mT s) : (Jvm.Cond.methodLink "ShareVaultLaw" (352 : Nat) ({ cls := "ShareVaultLaw", name := "errorPosition", desc := "(LShareVault;[J)I" } : Jvm.MethodName)).before a s = true := h _ (tin6 (List.mem_of_getElem? (l := tables_1_6) (i := 180) rfl)) rfl a
set_option maxRecDepth 100000 in
theorem q1381 {s : State} {a : Array Value} (h : mT s) : (Jvm.Cond.static ({ cls := "ShareVaultLaw", name := "errorPosition", desc := "(LShareVault;[J)I" } : Jvm.MethodName)).before a s = true := h _ (tin6 (List.mem_of_getElem? (l := tables_1_6) (i := 181) rfl)) rfl a
set_option maxRecDepth 100000 in
theorem q1388 {s : State} {a : Array Value} (h : mT s) : (Jvm.Cond.methodLink "ShareVaultLaw" (363 : Nat) ({ cls := "ShareVaultLaw", name := "outputChar", desc := "(LShareVault;I[J)I" } : Jvm.MethodName)).before a s = true := h _ (tin6 (List.mem_of_getElem? (l := tables_1_6) (i := 188) rfl)) rfl a
set_option maxRecDepth 100000 in
theorem q1389 {s : State} {a : Array Value} (h : mT s) : (Jvm.Cond.static ({ cls := "ShareVaultLaw", name := "outputChar", desc := "(LShareVault;I[J)I" } : Jvm.MethodName)).before a s = true := h _ (tin6 (List.mem_of_getElem? (l := tables_1_6) (i := 189) rfl)) rfl a
set_option maxRecDepth 100000 in
theorem q1396 {s : State} {a : Array Value} (h : mT s) : (Jvm.Cond.methodLink "ShareVaultLaw" (370 : Nat) ({ cls := "ShareVaultLaw", name := "undo", desc := "(LShareVault;[J)I" } : Jvm.MethodName)).before a s = true := h _ (tin6 (List.mem_of_getElem? (l := tables_1_6) (i := 196) rfl)) rfl a
set_option maxRecDepth 100000 in
theorem q1397 {s : State} {a : Array Value} (h : mT s) : (Jvm.Cond.static ({ cls := "ShareVaultLaw", name := "undo", desc := "(LShareVault;[J)I" } : Jvm.MethodName)).before a s = true := h _ (tin6 (List.mem_of_getElem? (l := tables_1_6) (i := 197) rfl)) rfl a
set_option maxRecDepth 100000 in
theorem q1408 {s : State} {a : Array Value} (h : mT s) : (Jvm.Cond.methodLink "ShareVaultLaw" (377 : Nat) ({ cls := "ShareVaultLaw", name := "restore", desc := "(LShareVault;[J)I" } : Jvm.MethodName)).before a s = true := h _ (tin6 (List.mem_of_getElem? (l := tables_1_6) (i := 208) rfl)) rfl a
set_option maxRecDepth 100000 in
theorem q1409 {s : State} {a : Array Value} (h : mT s) : (Jvm.Cond.static ({ cls := "ShareVaultLaw", name := "restore", desc := "(LShareVault;[J)I" } : Jvm.MethodName)).before a s = true := h _ (tin6 (List.mem_of_getElem? (l := tables_1_6) (i := 209) rfl)) rfl a
set_option maxRecDepth 100000 in
theorem q1496 {s : State} {a : Array Value} (h : mT s) : (Jvm.Cond.methodLink "ShareVaultLaw" (173 : Nat) ({ cls := "ShareVaultModel", name := "thrown", desc := "()I" } : Jvm.MethodName)).before a s = true := h _ (tin7 (List.mem_of_getElem? (l := tables_1_7) (i := 56) rfl)) rfl a
set_option maxRecDepth 100000 in
theorem q1497 {s : State} {a : Array Value} (h : mT s) : (Jvm.Cond.instanceMethod ({ cls := "ShareVaultModel", name := "thrown", desc := "()I" } : Jvm.MethodName)).before a s = true := h _ (tin7 (List.mem_of_getElem? (l := tables_1_7) (i := 57) rfl)) rfl a
set_option maxRecDepth 100000 in
theorem q1498 {s : State} {a : Array Value} (h : mT s) : (Jvm.Cond.selects "ShareVaultModel" ({ cls := "ShareVaultModel", name := "thrown", desc := "()I" } : Jvm.MethodName) ({ cls := "ShareVaultModel", name := "thrown", desc := "()I" } : Jvm.MethodName)).before a s = true := h _ (tin7 (List.mem_of_getElem? (l := tables_1_7) (i := 58) rfl)) rfl a
set_option maxRecDepth 100000 in
theorem q1500 {s : State} {a : Array Value} (h : mT s) : (Jvm.Cond.methodLink "ShareVaultLaw" (172 : Nat) ({ cls := "ShareVaultModel", name := "addHolder", desc := "()I" } : Jvm.MethodName)).before a s = true := h _ (tin7 (List.mem_of_getElem? (l := tables_1_7) (i := 60) rfl)) rfl a
set_option maxRecDepth 100000 in
theorem q1501 {s : State} {a : Array Value} (h : mT s) : (Jvm.Cond.instanceMethod ({ cls := "ShareVaultModel", name := "addHolder", desc := "()I" } : Jvm.MethodName)).before a s = true := h _ (tin7 (List.mem_of_getElem? (l := tables_1_7) (i := 61) rfl)) rfl a
set_option maxRecDepth 100000 in
theorem q1502 {s : State} {a : Array Value} (h : mT s) : (Jvm.Cond.selects "ShareVaultModel" ({ cls := "ShareVaultModel", name := "addHolder", desc := "()I" } : Jvm.MethodName) ({ cls := "ShareVaultModel", name := "addHolder", desc := "()I" } : Jvm.MethodName)).before a s = true := h _ (tin7 (List.mem_of_getElem? (l := tables_1_7) (i := 62) rfl)) rfl a
set_option maxRecDepth 100000 in
theorem q1536 {s : State} {a : Array Value} (h : mT s) : (Jvm.Cond.methodLink "ShareVaultLaw" (179 : Nat) ({ cls := "ShareVaultModel", name := "seal", desc := "(IIII)I" } : Jvm.MethodName)).before a s = true := h _ (tin7 (List.mem_of_getElem? (l := tables_1_7) (i := 96) rfl)) rfl a
set_option maxRecDepth 100000 in
theorem q1537 {s : State} {a : Array Value} (h : mT s) : (Jvm.Cond.instanceMethod ({ cls := "ShareVaultModel", name := "seal", desc := "(IIII)I" } : Jvm.MethodName)).before a s = true := h _ (tin7 (List.mem_of_getElem? (l := tables_1_7) (i := 97) rfl)) rfl a
set_option maxRecDepth 100000 in
theorem q1538 {s : State} {a : Array Value} (h : mT s) : (Jvm.Cond.selects "ShareVaultModel" ({ cls := "ShareVaultModel", name := "seal", desc := "(IIII)I" } : Jvm.MethodName) ({ cls := "ShareVaultModel", name := "seal", desc := "(IIII)I" } : Jvm.MethodName)).before a s = true := h _ (tin7 (List.mem_of_getElem? (l := tables_1_7) (i := 98) rfl)) rfl a
set_option maxRecDepth 100000 in
theorem q1551 {s : State} {a : Array Value} (h : mT s) : (Jvm.Cond.methodLink "ShareVaultLaw" (183 : Nat) ({ cls := "ShareVaultModel", name := "setShare", desc := "(II)I" } : Jvm.MethodName)).before a s = true := h _ (tin7 (List.mem_of_getElem? (l := tables_1_7) (i := 111) rfl)) rfl a
set_option maxRecDepth 100000 in
theorem q1552 {s : State} {a : Array Value} (h : mT s) : (Jvm.Cond.instanceMethod ({ cls := "ShareVaultModel", name := "setShare", desc := "(II)I" } : Jvm.MethodName)).before a s = true := h _ (tin7 (List.mem_of_getElem? (l := tables_1_7) (i := 112) rfl)) rfl a
set_option maxRecDepth 100000 in
theorem q1553 {s : State} {a : Array Value} (h : mT s) : (Jvm.Cond.selects "ShareVaultModel" ({ cls := "ShareVaultModel", name := "setShare", desc := "(II)I" } : Jvm.MethodName) ({ cls := "ShareVaultModel", name := "setShare", desc := "(II)I" } : Jvm.MethodName)).before a s = true := h _ (tin7 (List.mem_of_getElem? (l := tables_1_7) (i := 113) rfl)) rfl a
set_option maxRecDepth 100000 in
theorem q1563 {s : State} {a : Array Value} (h : mT s) : (Jvm.Cond.methodLink "ShareVaultLaw" (187 : Nat) ({ cls := "ShareVaultModel", name := "present", desc := "(I)I" } : Jvm.MethodName)).before a s = true := h _ (tin7 (List.mem_of_getElem? (l := tables_1_7) (i := 123) rfl)) rfl a
set_option maxRecDepth 100000 in
theorem q1564 {s : State} {a : Array Value} (h : mT s) : (Jvm.Cond.instanceMethod ({ cls := "ShareVaultModel", name := "present", desc := "(I)I" } : Jvm.MethodName)).before a s = true := h _ (tin7 (List.mem_of_getElem? (l := tables_1_7) (i := 124) rfl)) rfl a
set_option maxRecDepth 100000 in
theorem q1565 {s : State} {a : Array Value} (h : mT s) : (Jvm.Cond.selects "ShareVaultModel" ({ cls := "ShareVaultModel", name := "present", desc := "(I)I" } : Jvm.MethodName) ({ cls := "ShareVaultModel", name := "present", desc := "(I)I" } : Jvm.MethodName)).before a s = true := h _ (tin7 (List.mem_of_getElem? (l := tables_1_7) (i := 125) rfl)) rfl a
set_option maxRecDepth 100000 in
theorem q1575 {s : State} {a : Array Value} (h : mT s) : (Jvm.Cond.methodLink "ShareVaultLaw" (190 : Nat) ({ cls := "ShareVaultModel", name := "takeBack", desc := "(I)I" } : Jvm.MethodName)).before a s = true := h _ (tin7 (List.mem_of_getElem? (l := tables_1_7) (i := 135) rfl)) rfl a
set_option maxRecDepth 100000 in
theorem q1576 {s : State} {a : Array Value} (h : mT s) : (Jvm.Cond.instanceMethod ({ cls := "ShareVaultModel", name := "takeBack", desc := "(I)I" } : Jvm.MethodName)).before a s = true := h _ (tin7 (List.mem_of_getElem? (l := tables_1_7) (i := 136) rfl)) rfl a
set_option maxRecDepth 100000 in
theorem q1577 {s : State} {a : Array Value} (h : mT s) : (Jvm.Cond.selects "ShareVaultModel" ({ cls := "ShareVaultModel", name := "takeBack", desc := "(I)I" } : Jvm.MethodName) ({ cls := "ShareVaultModel", name := "takeBack", desc := "(I)I" } : Jvm.MethodName)).before a s = true := h _ (tin7 (List.mem_of_getElem? (l := tables_1_7) (i := 137) rfl)) rfl a
set_option maxRecDepth 100000 in
theorem q1583 {s : State} {a : Array Value} (h : mT s) : (Jvm.Cond.methodLink "ShareVaultLaw" (193 : Nat) ({ cls := "ShareVaultModel", name := "openVault", desc := "()Z" } : Jvm.MethodName)).before a s = true := h _ (tin7 (List.mem_of_getElem? (l := tables_1_7) (i := 143) rfl)) rfl a
set_option maxRecDepth 100000 in
theorem q1584 {s : State} {a : Array Value} (h : mT s) : (Jvm.Cond.instanceMethod ({ cls := "ShareVaultModel", name := "openVault", desc := "()Z" } : Jvm.MethodName)).before a s = true := h _ (tin7 (List.mem_of_getElem? (l := tables_1_7) (i := 144) rfl)) rfl a
set_option maxRecDepth 100000 in
theorem q1585 {s : State} {a : Array Value} (h : mT s) : (Jvm.Cond.selects "ShareVaultModel" ({ cls := "ShareVaultModel", name := "openVault", desc := "()Z" } : Jvm.MethodName) ({ cls := "ShareVaultModel", name := "openVault", desc := "()Z" } : Jvm.MethodName)).before a s = true := h _ (tin7 (List.mem_of_getElem? (l := tables_1_7) (i := 145) rfl)) rfl a
set_option maxRecDepth 100000 in
theorem q1618 {s : State} {a : Array Value} (h : mT s) : (Jvm.Cond.methodLink "ShareVaultLaw" (196 : Nat) ({ cls := "ShareVaultModel", name := "closeVault", desc := "()I" } : Jvm.MethodName)).before a s = true := h _ (tin7 (List.mem_of_getElem? (l := tables_1_7) (i := 178) rfl)) rfl a
set_option maxRecDepth 100000 in
theorem q1619 {s : State} {a : Array Value} (h : mT s) : (Jvm.Cond.instanceMethod ({ cls := "ShareVaultModel", name := "closeVault", desc := "()I" } : Jvm.MethodName)).before a s = true := h _ (tin7 (List.mem_of_getElem? (l := tables_1_7) (i := 179) rfl)) rfl a
set_option maxRecDepth 100000 in
theorem q1620 {s : State} {a : Array Value} (h : mT s) : (Jvm.Cond.selects "ShareVaultModel" ({ cls := "ShareVaultModel", name := "closeVault", desc := "()I" } : Jvm.MethodName) ({ cls := "ShareVaultModel", name := "closeVault", desc := "()I" } : Jvm.MethodName)).before a s = true := h _ (tin7 (List.mem_of_getElem? (l := tables_1_7) (i := 180) rfl)) rfl a
set_option maxRecDepth 100000 in
theorem q1626 {s : State} {a : Array Value} (h : mT s) : (Jvm.Cond.methodLink "ShareVaultLaw" (200 : Nat) ({ cls := "ShareVaultModel", name := "addGuard", desc := "(IZI)I" } : Jvm.MethodName)).before a s = true := h _ (tin7 (List.mem_of_getElem? (l := tables_1_7) (i := 186) rfl)) rfl a
set_option maxRecDepth 100000 in
theorem q1627 {s : State} {a : Array Value} (h : mT s) : (Jvm.Cond.instanceMethod ({ cls := "ShareVaultModel", name := "addGuard", desc := "(IZI)I" } : Jvm.MethodName)).before a s = true := h _ (tin7 (List.mem_of_getElem? (l := tables_1_7) (i := 187) rfl)) rfl a
set_option maxRecDepth 100000 in
theorem q1628 {s : State} {a : Array Value} (h : mT s) : (Jvm.Cond.selects "ShareVaultModel" ({ cls := "ShareVaultModel", name := "addGuard", desc := "(IZI)I" } : Jvm.MethodName) ({ cls := "ShareVaultModel", name := "addGuard", desc := "(IZI)I" } : Jvm.MethodName)).before a s = true := h _ (tin7 (List.mem_of_getElem? (l := tables_1_7) (i := 188) rfl)) rfl a
set_option maxRecDepth 100000 in
theorem q1637 {s : State} {a : Array Value} (h : mT s) : (Jvm.Cond.methodLink "ShareVaultLaw" (203 : Nat) ({ cls := "ShareVaultModel", name := "turnGuard", desc := "(I)Z" } : Jvm.MethodName)).before a s = true := h _ (tin7 (List.mem_of_getElem? (l := tables_1_7) (i := 197) rfl)) rfl a
set_option maxRecDepth 100000 in
theorem q1638 {s : State} {a : Array Value} (h : mT s) : (Jvm.Cond.instanceMethod ({ cls := "ShareVaultModel", name := "turnGuard", desc := "(I)Z" } : Jvm.MethodName)).before a s = true := h _ (tin7 (List.mem_of_getElem? (l := tables_1_7) (i := 198) rfl)) rfl a
set_option maxRecDepth 100000 in
theorem q1639 {s : State} {a : Array Value} (h : mT s) : (Jvm.Cond.selects "ShareVaultModel" ({ cls := "ShareVaultModel", name := "turnGuard", desc := "(I)Z" } : Jvm.MethodName) ({ cls := "ShareVaultModel", name := "turnGuard", desc := "(I)Z" } : Jvm.MethodName)).before a s = true := h _ (tin7 (List.mem_of_getElem? (l := tables_1_7) (i := 199) rfl)) rfl a
set_option maxRecDepth 100000 in
theorem q1649 {s : State} {a : Array Value} (h : mT s) : (Jvm.Cond.methodLink "ShareVaultLaw" (206 : Nat) ({ cls := "ShareVaultModel", name := "hum", desc := "(II)I" } : Jvm.MethodName)).before a s = true := h _ (tin7 (List.mem_of_getElem? (l := tables_1_7) (i := 209) rfl)) rfl a
set_option maxRecDepth 100000 in
theorem q1650 {s : State} {a : Array Value} (h : mT s) : (Jvm.Cond.instanceMethod ({ cls := "ShareVaultModel", name := "hum", desc := "(II)I" } : Jvm.MethodName)).before a s = true := h _ (tin7 (List.mem_of_getElem? (l := tables_1_7) (i := 210) rfl)) rfl a
set_option maxRecDepth 100000 in
theorem q1651 {s : State} {a : Array Value} (h : mT s) : (Jvm.Cond.selects "ShareVaultModel" ({ cls := "ShareVaultModel", name := "hum", desc := "(II)I" } : Jvm.MethodName) ({ cls := "ShareVaultModel", name := "hum", desc := "(II)I" } : Jvm.MethodName)).before a s = true := h _ (tin7 (List.mem_of_getElem? (l := tables_1_7) (i := 211) rfl)) rfl a
set_option maxRecDepth 100000 in
theorem q1657 {s : State} {a : Array Value} (h : mT s) : (Jvm.Cond.methodLink "ShareVaultLaw" (209 : Nat) ({ cls := "ShareVaultModel", name := "passHours", desc := "(I)I" } : Jvm.MethodName)).before a s = true := h _ (tin7 (List.mem_of_getElem? (l := tables_1_7) (i := 217) rfl)) rfl a
set_option maxRecDepth 100000 in
theorem q1658 {s : State} {a : Array Value} (h : mT s) : (Jvm.Cond.instanceMethod ({ cls := "ShareVaultModel", name := "passHours", desc := "(I)I" } : Jvm.MethodName)).before a s = true := h _ (tin7 (List.mem_of_getElem? (l := tables_1_7) (i := 218) rfl)) rfl a
set_option maxRecDepth 100000 in
theorem q1659 {s : State} {a : Array Value} (h : mT s) : (Jvm.Cond.selects "ShareVaultModel" ({ cls := "ShareVaultModel", name := "passHours", desc := "(I)I" } : Jvm.MethodName) ({ cls := "ShareVaultModel", name := "passHours", desc := "(I)I" } : Jvm.MethodName)).before a s = true := h _ (tin7 (List.mem_of_getElem? (l := tables_1_7) (i := 219) rfl)) rfl a
set_option maxRecDepth 100000 in
theorem q1673 {s : State} {a : Array Value} (h : mT s) : (Jvm.Cond.methodLink "ShareVaultLaw" (213 : Nat) ({ cls := "ShareVaultModel", name := "hour", desc := "()I" } : Jvm.MethodName)).before a s = true := h _ (tin7 (List.mem_of_getElem? (l := tables_1_7) (i := 233) rfl)) rfl a
set_option maxRecDepth 100000 in
theorem q1674 {s : State} {a : Array Value} (h : mT s) : (Jvm.Cond.instanceMethod ({ cls := "ShareVaultModel", name := "hour", desc := "()I" } : Jvm.MethodName)).before a s = true := h _ (tin7 (List.mem_of_getElem? (l := tables_1_7) (i := 234) rfl)) rfl a
set_option maxRecDepth 100000 in
theorem q1675 {s : State} {a : Array Value} (h : mT s) : (Jvm.Cond.selects "ShareVaultModel" ({ cls := "ShareVaultModel", name := "hour", desc := "()I" } : Jvm.MethodName) ({ cls := "ShareVaultModel", name := "hour", desc := "()I" } : Jvm.MethodName)).before a s = true := h _ (tin7 (List.mem_of_getElem? (l := tables_1_7) (i := 235) rfl)) rfl a
set_option maxRecDepth 100000 in
theorem q1677 {s : State} {a : Array Value} (h : mT s) : (Jvm.Cond.methodLink "ShareVaultLaw" (217 : Nat) ({ cls := "ShareVaultModel", name := "holderCount", desc := "()I" } : Jvm.MethodName)).before a s = true := h _ (tin7 (List.mem_of_getElem? (l := tables_1_7) (i := 237) rfl)) rfl a
set_option maxRecDepth 100000 in
theorem q1678 {s : State} {a : Array Value} (h : mT s) : (Jvm.Cond.instanceMethod ({ cls := "ShareVaultModel", name := "holderCount", desc := "()I" } : Jvm.MethodName)).before a s = true := h _ (tin7 (List.mem_of_getElem? (l := tables_1_7) (i := 238) rfl)) rfl a
set_option maxRecDepth 100000 in
theorem q1679 {s : State} {a : Array Value} (h : mT s) : (Jvm.Cond.selects "ShareVaultModel" ({ cls := "ShareVaultModel", name := "holderCount", desc := "()I" } : Jvm.MethodName) ({ cls := "ShareVaultModel", name := "holderCount", desc := "()I" } : Jvm.MethodName)).before a s = true := h _ (tin7 (List.mem_of_getElem? (l := tables_1_7) (i := 239) rfl)) rfl a
set_option maxRecDepth 100000 in
theorem q1681 {s : State} {a : Array Value} (h : mT s) : (Jvm.Cond.methodLink "ShareVaultLaw" (221 : Nat) ({ cls := "ShareVaultModel", name := "isSealed", desc := "()Z" } : Jvm.MethodName)).before a s = true := h _ (tin8 (List.mem_of_getElem? (l := tables_1_8) (i := 1) rfl)) rfl a
set_option maxRecDepth 100000 in
theorem q1682 {s : State} {a : Array Value} (h : mT s) : (Jvm.Cond.instanceMethod ({ cls := "ShareVaultModel", name := "isSealed", desc := "()Z" } : Jvm.MethodName)).before a s = true := h _ (tin8 (List.mem_of_getElem? (l := tables_1_8) (i := 2) rfl)) rfl a
set_option maxRecDepth 100000 in
theorem q1683 {s : State} {a : Array Value} (h : mT s) : (Jvm.Cond.selects "ShareVaultModel" ({ cls := "ShareVaultModel", name := "isSealed", desc := "()Z" } : Jvm.MethodName) ({ cls := "ShareVaultModel", name := "isSealed", desc := "()Z" } : Jvm.MethodName)).before a s = true := h _ (tin8 (List.mem_of_getElem? (l := tables_1_8) (i := 3) rfl)) rfl a
set_option maxRecDepth 100000 in
theorem q1685 {s : State} {a : Array Value} (h : mT s) : (Jvm.Cond.methodLink "ShareVaultLaw" (224 : Nat) ({ cls := "ShareVaultModel", name := "threshold", desc := "()I" } : Jvm.MethodName)).before a s = true := h _ (tin8 (List.mem_of_getElem? (l := tables_1_8) (i := 5) rfl)) rfl a
set_option maxRecDepth 100000 in
theorem q1686 {s : State} {a : Array Value} (h : mT s) : (Jvm.Cond.instanceMethod ({ cls := "ShareVaultModel", name := "threshold", desc := "()I" } : Jvm.MethodName)).before a s = true := h _ (tin8 (List.mem_of_getElem? (l := tables_1_8) (i := 6) rfl)) rfl a
set_option maxRecDepth 100000 in
theorem q1687 {s : State} {a : Array Value} (h : mT s) : (Jvm.Cond.selects "ShareVaultModel" ({ cls := "ShareVaultModel", name := "threshold", desc := "()I" } : Jvm.MethodName) ({ cls := "ShareVaultModel", name := "threshold", desc := "()I" } : Jvm.MethodName)).before a s = true := h _ (tin8 (List.mem_of_getElem? (l := tables_1_8) (i := 7) rfl)) rfl a
set_option maxRecDepth 100000 in
theorem q1689 {s : State} {a : Array Value} (h : mT s) : (Jvm.Cond.methodLink "ShareVaultLaw" (227 : Nat) ({ cls := "ShareVaultModel", name := "share", desc := "(I)I" } : Jvm.MethodName)).before a s = true := h _ (tin8 (List.mem_of_getElem? (l := tables_1_8) (i := 9) rfl)) rfl a
set_option maxRecDepth 100000 in
theorem q1690 {s : State} {a : Array Value} (h : mT s) : (Jvm.Cond.instanceMethod ({ cls := "ShareVaultModel", name := "share", desc := "(I)I" } : Jvm.MethodName)).before a s = true := h _ (tin8 (List.mem_of_getElem? (l := tables_1_8) (i := 10) rfl)) rfl a
set_option maxRecDepth 100000 in
theorem q1691 {s : State} {a : Array Value} (h : mT s) : (Jvm.Cond.selects "ShareVaultModel" ({ cls := "ShareVaultModel", name := "share", desc := "(I)I" } : Jvm.MethodName) ({ cls := "ShareVaultModel", name := "share", desc := "(I)I" } : Jvm.MethodName)).before a s = true := h _ (tin8 (List.mem_of_getElem? (l := tables_1_8) (i := 11) rfl)) rfl a
set_option maxRecDepth 100000 in
theorem q1697 {s : State} {a : Array Value} (h : mT s) : (Jvm.Cond.methodLink "ShareVaultLaw" (230 : Nat) ({ cls := "ShareVaultModel", name := "isCorrect", desc := "(I)Z" } : Jvm.MethodName)).before a s = true := h _ (tin8 (List.mem_of_getElem? (l := tables_1_8) (i := 17) rfl)) rfl a
set_option maxRecDepth 100000 in
theorem q1698 {s : State} {a : Array Value} (h : mT s) : (Jvm.Cond.instanceMethod ({ cls := "ShareVaultModel", name := "isCorrect", desc := "(I)Z" } : Jvm.MethodName)).before a s = true := h _ (tin8 (List.mem_of_getElem? (l := tables_1_8) (i := 18) rfl)) rfl a
set_option maxRecDepth 100000 in
theorem q1699 {s : State} {a : Array Value} (h : mT s) : (Jvm.Cond.selects "ShareVaultModel" ({ cls := "ShareVaultModel", name := "isCorrect", desc := "(I)Z" } : Jvm.MethodName) ({ cls := "ShareVaultModel", name := "isCorrect", desc := "(I)Z" } : Jvm.MethodName)).before a s = true := h _ (tin8 (List.mem_of_getElem? (l := tables_1_8) (i := 19) rfl)) rfl a
set_option maxRecDepth 100000 in
theorem q1701 {s : State} {a : Array Value} (h : mT s) : (Jvm.Cond.methodLink "ShareVaultLaw" (233 : Nat) ({ cls := "ShareVaultModel", name := "isPresented", desc := "(I)Z" } : Jvm.MethodName)).before a s = true := h _ (tin8 (List.mem_of_getElem? (l := tables_1_8) (i := 21) rfl)) rfl a
set_option maxRecDepth 100000 in
theorem q1702 {s : State} {a : Array Value} (h : mT s) : (Jvm.Cond.instanceMethod ({ cls := "ShareVaultModel", name := "isPresented", desc := "(I)Z" } : Jvm.MethodName)).before a s = true := h _ (tin8 (List.mem_of_getElem? (l := tables_1_8) (i := 22) rfl)) rfl a
set_option maxRecDepth 100000 in
theorem q1703 {s : State} {a : Array Value} (h : mT s) : (Jvm.Cond.selects "ShareVaultModel" ({ cls := "ShareVaultModel", name := "isPresented", desc := "(I)Z" } : Jvm.MethodName) ({ cls := "ShareVaultModel", name := "isPresented", desc := "(I)Z" } : Jvm.MethodName)).before a s = true := h _ (tin8 (List.mem_of_getElem? (l := tables_1_8) (i := 23) rfl)) rfl a
set_option maxRecDepth 100000 in
theorem q1705 {s : State} {a : Array Value} (h : mT s) : (Jvm.Cond.methodLink "ShareVaultLaw" (237 : Nat) ({ cls := "ShareVaultModel", name := "presentedCount", desc := "()I" } : Jvm.MethodName)).before a s = true := h _ (tin8 (List.mem_of_getElem? (l := tables_1_8) (i := 25) rfl)) rfl a
set_option maxRecDepth 100000 in
theorem q1706 {s : State} {a : Array Value} (h : mT s) : (Jvm.Cond.instanceMethod ({ cls := "ShareVaultModel", name := "presentedCount", desc := "()I" } : Jvm.MethodName)).before a s = true := h _ (tin8 (List.mem_of_getElem? (l := tables_1_8) (i := 26) rfl)) rfl a
set_option maxRecDepth 100000 in
theorem q1707 {s : State} {a : Array Value} (h : mT s) : (Jvm.Cond.selects "ShareVaultModel" ({ cls := "ShareVaultModel", name := "presentedCount", desc := "()I" } : Jvm.MethodName) ({ cls := "ShareVaultModel", name := "presentedCount", desc := "()I" } : Jvm.MethodName)).before a s = true := h _ (tin8 (List.mem_of_getElem? (l := tables_1_8) (i := 27) rfl)) rfl a
set_option maxRecDepth 100000 in
theorem q1709 {s : State} {a : Array Value} (h : mT s) : (Jvm.Cond.methodLink "ShareVaultLaw" (240 : Nat) ({ cls := "ShareVaultModel", name := "presentedAt", desc := "(I)I" } : Jvm.MethodName)).before a s = true := h _ (tin8 (List.mem_of_getElem? (l := tables_1_8) (i := 29) rfl)) rfl a
set_option maxRecDepth 100000 in
theorem q1710 {s : State} {a : Array Value} (h : mT s) : (Jvm.Cond.instanceMethod ({ cls := "ShareVaultModel", name := "presentedAt", desc := "(I)I" } : Jvm.MethodName)).before a s = true := h _ (tin8 (List.mem_of_getElem? (l := tables_1_8) (i := 30) rfl)) rfl a
set_option maxRecDepth 100000 in
theorem q1711 {s : State} {a : Array Value} (h : mT s) : (Jvm.Cond.selects "ShareVaultModel" ({ cls := "ShareVaultModel", name := "presentedAt", desc := "(I)I" } : Jvm.MethodName) ({ cls := "ShareVaultModel", name := "presentedAt", desc := "(I)I" } : Jvm.MethodName)).before a s = true := h _ (tin8 (List.mem_of_getElem? (l := tables_1_8) (i := 31) rfl)) rfl a
set_option maxRecDepth 100000 in
theorem q1713 {s : State} {a : Array Value} (h : mT s) : (Jvm.Cond.methodLink "ShareVaultLaw" (243 : Nat) ({ cls := "ShareVaultModel", name := "toldSecret", desc := "()I" } : Jvm.MethodName)).before a s = true := h _ (tin8 (List.mem_of_getElem? (l := tables_1_8) (i := 33) rfl)) rfl a
set_option maxRecDepth 100000 in
theorem q1721 {s : State} {a : Array Value} (h : mT s) : (Jvm.Cond.methodLink "ShareVaultLaw" (246 : Nat) ({ cls := "ShareVaultModel", name := "toldSecretByElimination", desc := "()I" } : Jvm.MethodName)).before a s = true := h _ (tin8 (List.mem_of_getElem? (l := tables_1_8) (i := 41) rfl)) rfl a
set_option maxRecDepth 100000 in
theorem q1722 {s : State} {a : Array Value} (h : mT s) : (Jvm.Cond.instanceMethod ({ cls := "ShareVaultModel", name := "toldSecretByElimination", desc := "()I" } : Jvm.MethodName)).before a s = true := h _ (tin8 (List.mem_of_getElem? (l := tables_1_8) (i := 42) rfl)) rfl a
set_option maxRecDepth 100000 in
theorem q1723 {s : State} {a : Array Value} (h : mT s) : (Jvm.Cond.selects "ShareVaultModel" ({ cls := "ShareVaultModel", name := "toldSecretByElimination", desc := "()I" } : Jvm.MethodName) ({ cls := "ShareVaultModel", name := "toldSecretByElimination", desc := "()I" } : Jvm.MethodName)).before a s = true := h _ (tin8 (List.mem_of_getElem? (l := tables_1_8) (i := 43) rfl)) rfl a
set_option maxRecDepth 100000 in
theorem q1726 {s : State} {a : Array Value} (h : mT s) : (Jvm.Cond.methodLink "ShareVaultLaw" (249 : Nat) ({ cls := "ShareVaultModel", name := "toldValue", desc := "(I)I" } : Jvm.MethodName)).before a s = true := h _ (tin8 (List.mem_of_getElem? (l := tables_1_8) (i := 46) rfl)) rfl a
set_option maxRecDepth 100000 in
theorem q1727 {s : State} {a : Array Value} (h : mT s) : (Jvm.Cond.instanceMethod ({ cls := "ShareVaultModel", name := "toldValue", desc := "(I)I" } : Jvm.MethodName)).before a s = true := h _ (tin8 (List.mem_of_getElem? (l := tables_1_8) (i := 47) rfl)) rfl a
set_option maxRecDepth 100000 in
theorem q1728 {s : State} {a : Array Value} (h : mT s) : (Jvm.Cond.selects "ShareVaultModel" ({ cls := "ShareVaultModel", name := "toldValue", desc := "(I)I" } : Jvm.MethodName) ({ cls := "ShareVaultModel", name := "toldValue", desc := "(I)I" } : Jvm.MethodName)).before a s = true := h _ (tin8 (List.mem_of_getElem? (l := tables_1_8) (i := 48) rfl)) rfl a
set_option maxRecDepth 100000 in
theorem q1730 {s : State} {a : Array Value} (h : mT s) : (Jvm.Cond.methodLink "ShareVaultLaw" (252 : Nat) ({ cls := "ShareVaultModel", name := "doAgree", desc := "()Z" } : Jvm.MethodName)).before a s = true := h _ (tin8 (List.mem_of_getElem? (l := tables_1_8) (i := 50) rfl)) rfl a
set_option maxRecDepth 100000 in
theorem q1731 {s : State} {a : Array Value} (h : mT s) : (Jvm.Cond.instanceMethod ({ cls := "ShareVaultModel", name := "doAgree", desc := "()Z" } : Jvm.MethodName)).before a s = true := h _ (tin8 (List.mem_of_getElem? (l := tables_1_8) (i := 51) rfl)) rfl a
set_option maxRecDepth 100000 in
theorem q1732 {s : State} {a : Array Value} (h : mT s) : (Jvm.Cond.selects "ShareVaultModel" ({ cls := "ShareVaultModel", name := "doAgree", desc := "()Z" } : Jvm.MethodName) ({ cls := "ShareVaultModel", name := "doAgree", desc := "()Z" } : Jvm.MethodName)).before a s = true := h _ (tin8 (List.mem_of_getElem? (l := tables_1_8) (i := 52) rfl)) rfl a
set_option maxRecDepth 100000 in
theorem q1734 {s : State} {a : Array Value} (h : mT s) : (Jvm.Cond.methodLink "ShareVaultLaw" (255 : Nat) ({ cls := "ShareVaultModel", name := "mostAgreeing", desc := "()I" } : Jvm.MethodName)).before a s = true := h _ (tin8 (List.mem_of_getElem? (l := tables_1_8) (i := 54) rfl)) rfl a
set_option maxRecDepth 100000 in
theorem q1742 {s : State} {a : Array Value} (h : mT s) : (Jvm.Cond.methodLink "ShareVaultLaw" (258 : Nat) ({ cls := "ShareVaultModel", name := "mostAgreeingBySets", desc := "()I" } : Jvm.MethodName)).before a s = true := h _ (tin8 (List.mem_of_getElem? (l := tables_1_8) (i := 62) rfl)) rfl a
set_option maxRecDepth 100000 in
theorem q1743 {s : State} {a : Array Value} (h : mT s) : (Jvm.Cond.instanceMethod ({ cls := "ShareVaultModel", name := "mostAgreeingBySets", desc := "()I" } : Jvm.MethodName)).before a s = true := h _ (tin8 (List.mem_of_getElem? (l := tables_1_8) (i := 63) rfl)) rfl a
set_option maxRecDepth 100000 in
theorem q1744 {s : State} {a : Array Value} (h : mT s) : (Jvm.Cond.selects "ShareVaultModel" ({ cls := "ShareVaultModel", name := "mostAgreeingBySets", desc := "()I" } : Jvm.MethodName) ({ cls := "ShareVaultModel", name := "mostAgreeingBySets", desc := "()I" } : Jvm.MethodName)).before a s = true := h _ (tin8 (List.mem_of_getElem? (l := tables_1_8) (i := 64) rfl)) rfl a
set_option maxRecDepth 100000 in
theorem q1747 {s : State} {a : Array Value} (h : mT s) : (Jvm.Cond.methodLink "ShareVaultLaw" (262 : Nat) ({ cls := "ShareVaultModel", name := "isOpen", desc := "()Z" } : Jvm.MethodName)).before a s = true := h _ (tin8 (List.mem_of_getElem? (l := tables_1_8) (i := 67) rfl)) rfl a
set_option maxRecDepth 100000 in
theorem q1748 {s : State} {a : Array Value} (h : mT s) : (Jvm.Cond.instanceMethod ({ cls := "ShareVaultModel", name := "isOpen", desc := "()Z" } : Jvm.MethodName)).before a s = true := h _ (tin8 (List.mem_of_getElem? (l := tables_1_8) (i := 68) rfl)) rfl a
set_option maxRecDepth 100000 in
theorem q1749 {s : State} {a : Array Value} (h : mT s) : (Jvm.Cond.selects "ShareVaultModel" ({ cls := "ShareVaultModel", name := "isOpen", desc := "()Z" } : Jvm.MethodName) ({ cls := "ShareVaultModel", name := "isOpen", desc := "()Z" } : Jvm.MethodName)).before a s = true := h _ (tin8 (List.mem_of_getElem? (l := tables_1_8) (i := 69) rfl)) rfl a
set_option maxRecDepth 100000 in
theorem q1751 {s : State} {a : Array Value} (h : mT s) : (Jvm.Cond.methodLink "ShareVaultLaw" (266 : Nat) ({ cls := "ShareVaultModel", name := "lockedHours", desc := "()I" } : Jvm.MethodName)).before a s = true := h _ (tin8 (List.mem_of_getElem? (l := tables_1_8) (i := 71) rfl)) rfl a
set_option maxRecDepth 100000 in
theorem q1752 {s : State} {a : Array Value} (h : mT s) : (Jvm.Cond.instanceMethod ({ cls := "ShareVaultModel", name := "lockedHours", desc := "()I" } : Jvm.MethodName)).before a s = true := h _ (tin8 (List.mem_of_getElem? (l := tables_1_8) (i := 72) rfl)) rfl a
set_option maxRecDepth 100000 in
theorem q1753 {s : State} {a : Array Value} (h : mT s) : (Jvm.Cond.selects "ShareVaultModel" ({ cls := "ShareVaultModel", name := "lockedHours", desc := "()I" } : Jvm.MethodName) ({ cls := "ShareVaultModel", name := "lockedHours", desc := "()I" } : Jvm.MethodName)).before a s = true := h _ (tin8 (List.mem_of_getElem? (l := tables_1_8) (i := 73) rfl)) rfl a
set_option maxRecDepth 100000 in
theorem q1755 {s : State} {a : Array Value} (h : mT s) : (Jvm.Cond.methodLink "ShareVaultLaw" (270 : Nat) ({ cls := "ShareVaultModel", name := "failedAttempts", desc := "()I" } : Jvm.MethodName)).before a s = true := h _ (tin8 (List.mem_of_getElem? (l := tables_1_8) (i := 75) rfl)) rfl a
set_option maxRecDepth 100000 in
theorem q1756 {s : State} {a : Array Value} (h : mT s) : (Jvm.Cond.instanceMethod ({ cls := "ShareVaultModel", name := "failedAttempts", desc := "()I" } : Jvm.MethodName)).before a s = true := h _ (tin8 (List.mem_of_getElem? (l := tables_1_8) (i := 76) rfl)) rfl a
set_option maxRecDepth 100000 in
theorem q1757 {s : State} {a : Array Value} (h : mT s) : (Jvm.Cond.selects "ShareVaultModel" ({ cls := "ShareVaultModel", name := "failedAttempts", desc := "()I" } : Jvm.MethodName) ({ cls := "ShareVaultModel", name := "failedAttempts", desc := "()I" } : Jvm.MethodName)).before a s = true := h _ (tin8 (List.mem_of_getElem? (l := tables_1_8) (i := 77) rfl)) rfl a
set_option maxRecDepth 100000 in
theorem q1759 {s : State} {a : Array Value} (h : mT s) : (Jvm.Cond.methodLink "ShareVaultLaw" (274 : Nat) ({ cls := "ShareVaultModel", name := "guardCount", desc := "()I" } : Jvm.MethodName)).before a s = true := h _ (tin8 (List.mem_of_getElem? (l := tables_1_8) (i := 79) rfl)) rfl a
set_option maxRecDepth 100000 in
theorem q1760 {s : State} {a : Array Value} (h : mT s) : (Jvm.Cond.instanceMethod ({ cls := "ShareVaultModel", name := "guardCount", desc := "()I" } : Jvm.MethodName)).before a s = true := h _ (tin8 (List.mem_of_getElem? (l := tables_1_8) (i := 80) rfl)) rfl a
set_option maxRecDepth 100000 in
theorem q1761 {s : State} {a : Array Value} (h : mT s) : (Jvm.Cond.selects "ShareVaultModel" ({ cls := "ShareVaultModel", name := "guardCount", desc := "()I" } : Jvm.MethodName) ({ cls := "ShareVaultModel", name := "guardCount", desc := "()I" } : Jvm.MethodName)).before a s = true := h _ (tin8 (List.mem_of_getElem? (l := tables_1_8) (i := 81) rfl)) rfl a
set_option maxRecDepth 100000 in
theorem q1763 {s : State} {a : Array Value} (h : mT s) : (Jvm.Cond.methodLink "ShareVaultLaw" (277 : Nat) ({ cls := "ShareVaultModel", name := "zoneOf", desc := "(I)I" } : Jvm.MethodName)).before a s = true := h _ (tin8 (List.mem_of_getElem? (l := tables_1_8) (i := 83) rfl)) rfl a
set_option maxRecDepth 100000 in
theorem q1764 {s : State} {a : Array Value} (h : mT s) : (Jvm.Cond.instanceMethod ({ cls := "ShareVaultModel", name := "zoneOf", desc := "(I)I" } : Jvm.MethodName)).before a s = true := h _ (tin8 (List.mem_of_getElem? (l := tables_1_8) (i := 84) rfl)) rfl a
set_option maxRecDepth 100000 in
theorem q1765 {s : State} {a : Array Value} (h : mT s) : (Jvm.Cond.selects "ShareVaultModel" ({ cls := "ShareVaultModel", name := "zoneOf", desc := "(I)I" } : Jvm.MethodName) ({ cls := "ShareVaultModel", name := "zoneOf", desc := "(I)I" } : Jvm.MethodName)).before a s = true := h _ (tin8 (List.mem_of_getElem? (l := tables_1_8) (i := 85) rfl)) rfl a
set_option maxRecDepth 100000 in
theorem q1767 {s : State} {a : Array Value} (h : mT s) : (Jvm.Cond.methodLink "ShareVaultLaw" (280 : Nat) ({ cls := "ShareVaultModel", name := "isForwards", desc := "(I)Z" } : Jvm.MethodName)).before a s = true := h _ (tin8 (List.mem_of_getElem? (l := tables_1_8) (i := 87) rfl)) rfl a
set_option maxRecDepth 100000 in
theorem q1768 {s : State} {a : Array Value} (h : mT s) : (Jvm.Cond.instanceMethod ({ cls := "ShareVaultModel", name := "isForwards", desc := "(I)Z" } : Jvm.MethodName)).before a s = true := h _ (tin8 (List.mem_of_getElem? (l := tables_1_8) (i := 88) rfl)) rfl a
set_option maxRecDepth 100000 in
theorem q1769 {s : State} {a : Array Value} (h : mT s) : (Jvm.Cond.selects "ShareVaultModel" ({ cls := "ShareVaultModel", name := "isForwards", desc := "(I)Z" } : Jvm.MethodName) ({ cls := "ShareVaultModel", name := "isForwards", desc := "(I)Z" } : Jvm.MethodName)).before a s = true := h _ (tin8 (List.mem_of_getElem? (l := tables_1_8) (i := 89) rfl)) rfl a
set_option maxRecDepth 100000 in
theorem q1771 {s : State} {a : Array Value} (h : mT s) : (Jvm.Cond.methodLink "ShareVaultLaw" (283 : Nat) ({ cls := "ShareVaultModel", name := "noise", desc := "(I)I" } : Jvm.MethodName)).before a s = true := h _ (tin8 (List.mem_of_getElem? (l := tables_1_8) (i := 91) rfl)) rfl a
set_option maxRecDepth 100000 in
theorem q1772 {s : State} {a : Array Value} (h : mT s) : (Jvm.Cond.instanceMethod ({ cls := "ShareVaultModel", name := "noise", desc := "(I)I" } : Jvm.MethodName)).before a s = true := h _ (tin8 (List.mem_of_getElem? (l := tables_1_8) (i := 92) rfl)) rfl a
set_option maxRecDepth 100000 in
theorem q1773 {s : State} {a : Array Value} (h : mT s) : (Jvm.Cond.selects "ShareVaultModel" ({ cls := "ShareVaultModel", name := "noise", desc := "(I)I" } : Jvm.MethodName) ({ cls := "ShareVaultModel", name := "noise", desc := "(I)I" } : Jvm.MethodName)).before a s = true := h _ (tin8 (List.mem_of_getElem? (l := tables_1_8) (i := 93) rfl)) rfl a
set_option maxRecDepth 100000 in
theorem q1779 {s : State} {a : Array Value} (h : mT s) : (Jvm.Cond.methodLink "ShareVaultLaw" (286 : Nat) ({ cls := "ShareVaultModel", name := "isGuarded", desc := "(I)Z" } : Jvm.MethodName)).before a s = true := h _ (tin8 (List.mem_of_getElem? (l := tables_1_8) (i := 99) rfl)) rfl a
set_option maxRecDepth 100000 in
theorem q1780 {s : State} {a : Array Value} (h : mT s) : (Jvm.Cond.instanceMethod ({ cls := "ShareVaultModel", name := "isGuarded", desc := "(I)Z" } : Jvm.MethodName)).before a s = true := h _ (tin8 (List.mem_of_getElem? (l := tables_1_8) (i := 100) rfl)) rfl a
set_option maxRecDepth 100000 in
theorem q1781 {s : State} {a : Array Value} (h : mT s) : (Jvm.Cond.selects "ShareVaultModel" ({ cls := "ShareVaultModel", name := "isGuarded", desc := "(I)Z" } : Jvm.MethodName) ({ cls := "ShareVaultModel", name := "isGuarded", desc := "(I)Z" } : Jvm.MethodName)).before a s = true := h _ (tin8 (List.mem_of_getElem? (l := tables_1_8) (i := 101) rfl)) rfl a
set_option maxRecDepth 100000 in
theorem q1783 {s : State} {a : Array Value} (h : mT s) : (Jvm.Cond.methodLink "ShareVaultLaw" (289 : Nat) ({ cls := "ShareVaultModel", name := "hoursUntilVisit", desc := "(I)I" } : Jvm.MethodName)).before a s = true := h _ (tin8 (List.mem_of_getElem? (l := tables_1_8) (i := 103) rfl)) rfl a
set_option maxRecDepth 100000 in
theorem q1795 {s : State} {a : Array Value} (h : mT s) : (Jvm.Cond.methodLink "ShareVaultLaw" (292 : Nat) ({ cls := "ShareVaultModel", name := "hoursUntilVisitByRemainders", desc := "(I)I" } : Jvm.MethodName)).before a s = true := h _ (tin8 (List.mem_of_getElem? (l := tables_1_8) (i := 115) rfl)) rfl a
set_option maxRecDepth 100000 in
theorem q1796 {s : State} {a : Array Value} (h : mT s) : (Jvm.Cond.instanceMethod ({ cls := "ShareVaultModel", name := "hoursUntilVisitByRemainders", desc := "(I)I" } : Jvm.MethodName)).before a s = true := h _ (tin8 (List.mem_of_getElem? (l := tables_1_8) (i := 116) rfl)) rfl a
set_option maxRecDepth 100000 in
theorem q1797 {s : State} {a : Array Value} (h : mT s) : (Jvm.Cond.selects "ShareVaultModel" ({ cls := "ShareVaultModel", name := "hoursUntilVisitByRemainders", desc := "(I)I" } : Jvm.MethodName) ({ cls := "ShareVaultModel", name := "hoursUntilVisitByRemainders", desc := "(I)I" } : Jvm.MethodName)).before a s = true := h _ (tin8 (List.mem_of_getElem? (l := tables_1_8) (i := 117) rfl)) rfl a
set_option maxRecDepth 100000 in
theorem q1800 {s : State} {a : Array Value} (h : mT s) : (Jvm.Cond.methodLink "ShareVaultLaw" (295 : Nat) ({ cls := "ShareVaultModel", name := "alarmsIn", desc := "(I)I" } : Jvm.MethodName)).before a s = true := h _ (tin8 (List.mem_of_getElem? (l := tables_1_8) (i := 120) rfl)) rfl a
set_option maxRecDepth 100000 in
theorem q1801 {s : State} {a : Array Value} (h : mT s) : (Jvm.Cond.instanceMethod ({ cls := "ShareVaultModel", name := "alarmsIn", desc := "(I)I" } : Jvm.MethodName)).before a s = true := h _ (tin8 (List.mem_of_getElem? (l := tables_1_8) (i := 121) rfl)) rfl a
set_option maxRecDepth 100000 in
theorem q1802 {s : State} {a : Array Value} (h : mT s) : (Jvm.Cond.selects "ShareVaultModel" ({ cls := "ShareVaultModel", name := "alarmsIn", desc := "(I)I" } : Jvm.MethodName) ({ cls := "ShareVaultModel", name := "alarmsIn", desc := "(I)I" } : Jvm.MethodName)).before a s = true := h _ (tin8 (List.mem_of_getElem? (l := tables_1_8) (i := 122) rfl)) rfl a
set_option maxRecDepth 100000 in
theorem q1804 {s : State} {a : Array Value} (h : mT s) : (Jvm.Cond.methodLink "ShareVaultLaw" (298 : Nat) ({ cls := "ShareVaultModel", name := "zoneByNoise", desc := "(I)I" } : Jvm.MethodName)).before a s = true := h _ (tin8 (List.mem_of_getElem? (l := tables_1_8) (i := 124) rfl)) rfl a
set_option maxRecDepth 100000 in
theorem q1805 {s : State} {a : Array Value} (h : mT s) : (Jvm.Cond.instanceMethod ({ cls := "ShareVaultModel", name := "zoneByNoise", desc := "(I)I" } : Jvm.MethodName)).before a s = true := h _ (tin8 (List.mem_of_getElem? (l := tables_1_8) (i := 125) rfl)) rfl a
set_option maxRecDepth 100000 in
theorem q1806 {s : State} {a : Array Value} (h : mT s) : (Jvm.Cond.selects "ShareVaultModel" ({ cls := "ShareVaultModel", name := "zoneByNoise", desc := "(I)I" } : Jvm.MethodName) ({ cls := "ShareVaultModel", name := "zoneByNoise", desc := "(I)I" } : Jvm.MethodName)).before a s = true := h _ (tin8 (List.mem_of_getElem? (l := tables_1_8) (i := 126) rfl)) rfl a
set_option maxRecDepth 100000 in
theorem q1812 {s : State} {a : Array Value} (h : mT s) : (Jvm.Cond.methodLink "ShareVaultLaw" (301 : Nat) ({ cls := "ShareVaultModel", name := "alarmsOf", desc := "(I)I" } : Jvm.MethodName)).before a s = true := h _ (tin8 (List.mem_of_getElem? (l := tables_1_8) (i := 132) rfl)) rfl a
set_option maxRecDepth 100000 in
theorem q1813 {s : State} {a : Array Value} (h : mT s) : (Jvm.Cond.instanceMethod ({ cls := "ShareVaultModel", name := "alarmsOf", desc := "(I)I" } : Jvm.MethodName)).before a s = true := h _ (tin8 (List.mem_of_getElem? (l := tables_1_8) (i := 133) rfl)) rfl a
set_option maxRecDepth 100000 in
theorem q1814 {s : State} {a : Array Value} (h : mT s) : (Jvm.Cond.selects "ShareVaultModel" ({ cls := "ShareVaultModel", name := "alarmsOf", desc := "(I)I" } : Jvm.MethodName) ({ cls := "ShareVaultModel", name := "alarmsOf", desc := "(I)I" } : Jvm.MethodName)).before a s = true := h _ (tin8 (List.mem_of_getElem? (l := tables_1_8) (i := 134) rfl)) rfl a
set_option maxRecDepth 100000 in
theorem q1816 {s : State} {a : Array Value} (h : mT s) : (Jvm.Cond.methodLink "ShareVaultLaw" (305 : Nat) ({ cls := "ShareVaultModel", name := "alarmCount", desc := "()I" } : Jvm.MethodName)).before a s = true := h _ (tin8 (List.mem_of_getElem? (l := tables_1_8) (i := 136) rfl)) rfl a
set_option maxRecDepth 100000 in
theorem q1817 {s : State} {a : Array Value} (h : mT s) : (Jvm.Cond.instanceMethod ({ cls := "ShareVaultModel", name := "alarmCount", desc := "()I" } : Jvm.MethodName)).before a s = true := h _ (tin8 (List.mem_of_getElem? (l := tables_1_8) (i := 137) rfl)) rfl a
set_option maxRecDepth 100000 in
theorem q1818 {s : State} {a : Array Value} (h : mT s) : (Jvm.Cond.selects "ShareVaultModel" ({ cls := "ShareVaultModel", name := "alarmCount", desc := "()I" } : Jvm.MethodName) ({ cls := "ShareVaultModel", name := "alarmCount", desc := "()I" } : Jvm.MethodName)).before a s = true := h _ (tin8 (List.mem_of_getElem? (l := tables_1_8) (i := 138) rfl)) rfl a
set_option maxRecDepth 100000 in
theorem q1820 {s : State} {a : Array Value} (h : mT s) : (Jvm.Cond.methodLink "ShareVaultLaw" (309 : Nat) ({ cls := "ShareVaultModel", name := "openingCount", desc := "()I" } : Jvm.MethodName)).before a s = true := h _ (tin8 (List.mem_of_getElem? (l := tables_1_8) (i := 140) rfl)) rfl a
set_option maxRecDepth 100000 in
theorem q1821 {s : State} {a : Array Value} (h : mT s) : (Jvm.Cond.instanceMethod ({ cls := "ShareVaultModel", name := "openingCount", desc := "()I" } : Jvm.MethodName)).before a s = true := h _ (tin8 (List.mem_of_getElem? (l := tables_1_8) (i := 141) rfl)) rfl a
set_option maxRecDepth 100000 in
theorem q1822 {s : State} {a : Array Value} (h : mT s) : (Jvm.Cond.selects "ShareVaultModel" ({ cls := "ShareVaultModel", name := "openingCount", desc := "()I" } : Jvm.MethodName) ({ cls := "ShareVaultModel", name := "openingCount", desc := "()I" } : Jvm.MethodName)).before a s = true := h _ (tin8 (List.mem_of_getElem? (l := tables_1_8) (i := 142) rfl)) rfl a
set_option maxRecDepth 100000 in
theorem q1824 {s : State} {a : Array Value} (h : mT s) : (Jvm.Cond.methodLink "ShareVaultLaw" (313 : Nat) ({ cls := "ShareVaultModel", name := "logCount", desc := "()I" } : Jvm.MethodName)).before a s = true := h _ (tin8 (List.mem_of_getElem? (l := tables_1_8) (i := 144) rfl)) rfl a
set_option maxRecDepth 100000 in
theorem q1825 {s : State} {a : Array Value} (h : mT s) : (Jvm.Cond.instanceMethod ({ cls := "ShareVaultModel", name := "logCount", desc := "()I" } : Jvm.MethodName)).before a s = true := h _ (tin8 (List.mem_of_getElem? (l := tables_1_8) (i := 145) rfl)) rfl a
set_option maxRecDepth 100000 in
theorem q1826 {s : State} {a : Array Value} (h : mT s) : (Jvm.Cond.selects "ShareVaultModel" ({ cls := "ShareVaultModel", name := "logCount", desc := "()I" } : Jvm.MethodName) ({ cls := "ShareVaultModel", name := "logCount", desc := "()I" } : Jvm.MethodName)).before a s = true := h _ (tin8 (List.mem_of_getElem? (l := tables_1_8) (i := 146) rfl)) rfl a
set_option maxRecDepth 100000 in
theorem q1828 {s : State} {a : Array Value} (h : mT s) : (Jvm.Cond.methodLink "ShareVaultLaw" (316 : Nat) ({ cls := "ShareVaultModel", name := "logHour", desc := "(I)I" } : Jvm.MethodName)).before a s = true := h _ (tin8 (List.mem_of_getElem? (l := tables_1_8) (i := 148) rfl)) rfl a
set_option maxRecDepth 100000 in
theorem q1829 {s : State} {a : Array Value} (h : mT s) : (Jvm.Cond.instanceMethod ({ cls := "ShareVaultModel", name := "logHour", desc := "(I)I" } : Jvm.MethodName)).before a s = true := h _ (tin8 (List.mem_of_getElem? (l := tables_1_8) (i := 149) rfl)) rfl a
set_option maxRecDepth 100000 in
theorem q1830 {s : State} {a : Array Value} (h : mT s) : (Jvm.Cond.selects "ShareVaultModel" ({ cls := "ShareVaultModel", name := "logHour", desc := "(I)I" } : Jvm.MethodName) ({ cls := "ShareVaultModel", name := "logHour", desc := "(I)I" } : Jvm.MethodName)).before a s = true := h _ (tin8 (List.mem_of_getElem? (l := tables_1_8) (i := 150) rfl)) rfl a
set_option maxRecDepth 100000 in
theorem q1836 {s : State} {a : Array Value} (h : mT s) : (Jvm.Cond.methodLink "ShareVaultLaw" (319 : Nat) ({ cls := "ShareVaultModel", name := "logKind", desc := "(I)C" } : Jvm.MethodName)).before a s = true := h _ (tin8 (List.mem_of_getElem? (l := tables_1_8) (i := 156) rfl)) rfl a
set_option maxRecDepth 100000 in
theorem q1837 {s : State} {a : Array Value} (h : mT s) : (Jvm.Cond.instanceMethod ({ cls := "ShareVaultModel", name := "logKind", desc := "(I)C" } : Jvm.MethodName)).before a s = true := h _ (tin8 (List.mem_of_getElem? (l := tables_1_8) (i := 157) rfl)) rfl a
set_option maxRecDepth 100000 in
theorem q1838 {s : State} {a : Array Value} (h : mT s) : (Jvm.Cond.selects "ShareVaultModel" ({ cls := "ShareVaultModel", name := "logKind", desc := "(I)C" } : Jvm.MethodName) ({ cls := "ShareVaultModel", name := "logKind", desc := "(I)C" } : Jvm.MethodName)).before a s = true := h _ (tin8 (List.mem_of_getElem? (l := tables_1_8) (i := 158) rfl)) rfl a
set_option maxRecDepth 100000 in
theorem q1840 {s : State} {a : Array Value} (h : mT s) : (Jvm.Cond.methodLink "ShareVaultLaw" (322 : Nat) ({ cls := "ShareVaultModel", name := "logDetail", desc := "(I)I" } : Jvm.MethodName)).before a s = true := h _ (tin8 (List.mem_of_getElem? (l := tables_1_8) (i := 160) rfl)) rfl a
set_option maxRecDepth 100000 in
theorem q1841 {s : State} {a : Array Value} (h : mT s) : (Jvm.Cond.instanceMethod ({ cls := "ShareVaultModel", name := "logDetail", desc := "(I)I" } : Jvm.MethodName)).before a s = true := h _ (tin8 (List.mem_of_getElem? (l := tables_1_8) (i := 161) rfl)) rfl a
set_option maxRecDepth 100000 in
theorem q1842 {s : State} {a : Array Value} (h : mT s) : (Jvm.Cond.selects "ShareVaultModel" ({ cls := "ShareVaultModel", name := "logDetail", desc := "(I)I" } : Jvm.MethodName) ({ cls := "ShareVaultModel", name := "logDetail", desc := "(I)I" } : Jvm.MethodName)).before a s = true := h _ (tin8 (List.mem_of_getElem? (l := tables_1_8) (i := 162) rfl)) rfl a
set_option maxRecDepth 100000 in
theorem q1844 {s : State} {a : Array Value} (h : mT s) : (Jvm.Cond.methodLink "ShareVaultLaw" (327 : Nat) ({ cls := "ShareVaultModel", name := "meanNoise", desc := "()D" } : Jvm.MethodName)).before a s = true := h _ (tin8 (List.mem_of_getElem? (l := tables_1_8) (i := 164) rfl)) rfl a
set_option maxRecDepth 100000 in
theorem q1845 {s : State} {a : Array Value} (h : mT s) : (Jvm.Cond.instanceMethod ({ cls := "ShareVaultModel", name := "meanNoise", desc := "()D" } : Jvm.MethodName)).before a s = true := h _ (tin8 (List.mem_of_getElem? (l := tables_1_8) (i := 165) rfl)) rfl a
set_option maxRecDepth 100000 in
theorem q1846 {s : State} {a : Array Value} (h : mT s) : (Jvm.Cond.selects "ShareVaultModel" ({ cls := "ShareVaultModel", name := "meanNoise", desc := "()D" } : Jvm.MethodName) ({ cls := "ShareVaultModel", name := "meanNoise", desc := "()D" } : Jvm.MethodName)).before a s = true := h _ (tin8 (List.mem_of_getElem? (l := tables_1_8) (i := 166) rfl)) rfl a
set_option maxRecDepth 100000 in
theorem q1849 {s : State} {a : Array Value} (h : mT s) : (Jvm.Cond.methodLink "ShareVaultLaw" (331 : Nat) ({ cls := "ShareVaultModel", name := "alarmShare", desc := "(I)F" } : Jvm.MethodName)).before a s = true := h _ (tin8 (List.mem_of_getElem? (l := tables_1_8) (i := 169) rfl)) rfl a
set_option maxRecDepth 100000 in
theorem q1850 {s : State} {a : Array Value} (h : mT s) : (Jvm.Cond.instanceMethod ({ cls := "ShareVaultModel", name := "alarmShare", desc := "(I)F" } : Jvm.MethodName)).before a s = true := h _ (tin8 (List.mem_of_getElem? (l := tables_1_8) (i := 170) rfl)) rfl a
set_option maxRecDepth 100000 in
theorem q1851 {s : State} {a : Array Value} (h : mT s) : (Jvm.Cond.selects "ShareVaultModel" ({ cls := "ShareVaultModel", name := "alarmShare", desc := "(I)F" } : Jvm.MethodName) ({ cls := "ShareVaultModel", name := "alarmShare", desc := "(I)F" } : Jvm.MethodName)).before a s = true := h _ (tin8 (List.mem_of_getElem? (l := tables_1_8) (i := 171) rfl)) rfl a
set_option maxRecDepth 100000 in
theorem q1853 {s : State} {a : Array Value} (h : mT s) : (Jvm.Cond.methodLink "ShareVaultLaw" (335 : Nat) ({ cls := "ShareVaultModel", name := "isConsistent", desc := "()Z" } : Jvm.MethodName)).before a s = true := h _ (tin8 (List.mem_of_getElem? (l := tables_1_8) (i := 173) rfl)) rfl a
set_option maxRecDepth 100000 in
theorem q1854 {s : State} {a : Array Value} (h : mT s) : (Jvm.Cond.instanceMethod ({ cls := "ShareVaultModel", name := "isConsistent", desc := "()Z" } : Jvm.MethodName)).before a s = true := h _ (tin8 (List.mem_of_getElem? (l := tables_1_8) (i := 174) rfl)) rfl a
set_option maxRecDepth 100000 in
theorem q1855 {s : State} {a : Array Value} (h : mT s) : (Jvm.Cond.selects "ShareVaultModel" ({ cls := "ShareVaultModel", name := "isConsistent", desc := "()Z" } : Jvm.MethodName) ({ cls := "ShareVaultModel", name := "isConsistent", desc := "()Z" } : Jvm.MethodName)).before a s = true := h _ (tin8 (List.mem_of_getElem? (l := tables_1_8) (i := 175) rfl)) rfl a
set_option maxRecDepth 100000 in
theorem q1857 {s : State} {a : Array Value} (h : mT s) : (Jvm.Cond.methodLink "ShareVaultLaw" (338 : Nat) ({ cls := "ShareVaultModel", name := "refusalReason", desc := "()I" } : Jvm.MethodName)).before a s = true := h _ (tin8 (List.mem_of_getElem? (l := tables_1_8) (i := 177) rfl)) rfl a
set_option maxRecDepth 100000 in
theorem q1858 {s : State} {a : Array Value} (h : mT s) : (Jvm.Cond.instanceMethod ({ cls := "ShareVaultModel", name := "refusalReason", desc := "()I" } : Jvm.MethodName)).before a s = true := h _ (tin8 (List.mem_of_getElem? (l := tables_1_8) (i := 178) rfl)) rfl a
set_option maxRecDepth 100000 in
theorem q1859 {s : State} {a : Array Value} (h : mT s) : (Jvm.Cond.selects "ShareVaultModel" ({ cls := "ShareVaultModel", name := "refusalReason", desc := "()I" } : Jvm.MethodName) ({ cls := "ShareVaultModel", name := "refusalReason", desc := "()I" } : Jvm.MethodName)).before a s = true := h _ (tin8 (List.mem_of_getElem? (l := tables_1_8) (i := 179) rfl)) rfl a
set_option maxRecDepth 100000 in
theorem q1861 {s : State} {a : Array Value} (h : mT s) : (Jvm.Cond.methodLink "ShareVaultLaw" (341 : Nat) ({ cls := "ShareVaultModel", name := "refusalDetail", desc := "()I" } : Jvm.MethodName)).before a s = true := h _ (tin8 (List.mem_of_getElem? (l := tables_1_8) (i := 181) rfl)) rfl a
set_option maxRecDepth 100000 in
theorem q1862 {s : State} {a : Array Value} (h : mT s) : (Jvm.Cond.instanceMethod ({ cls := "ShareVaultModel", name := "refusalDetail", desc := "()I" } : Jvm.MethodName)).before a s = true := h _ (tin8 (List.mem_of_getElem? (l := tables_1_8) (i := 182) rfl)) rfl a
set_option maxRecDepth 100000 in
theorem q1863 {s : State} {a : Array Value} (h : mT s) : (Jvm.Cond.selects "ShareVaultModel" ({ cls := "ShareVaultModel", name := "refusalDetail", desc := "()I" } : Jvm.MethodName) ({ cls := "ShareVaultModel", name := "refusalDetail", desc := "()I" } : Jvm.MethodName)).before a s = true := h _ (tin8 (List.mem_of_getElem? (l := tables_1_8) (i := 183) rfl)) rfl a
set_option maxRecDepth 100000 in
theorem q1865 {s : State} {a : Array Value} (h : mT s) : (Jvm.Cond.methodLink "ShareVaultLaw" (344 : Nat) ({ cls := "ShareVaultModel", name := "refusalCause", desc := "()I" } : Jvm.MethodName)).before a s = true := h _ (tin8 (List.mem_of_getElem? (l := tables_1_8) (i := 185) rfl)) rfl a
set_option maxRecDepth 100000 in
theorem q1866 {s : State} {a : Array Value} (h : mT s) : (Jvm.Cond.instanceMethod ({ cls := "ShareVaultModel", name := "refusalCause", desc := "()I" } : Jvm.MethodName)).before a s = true := h _ (tin8 (List.mem_of_getElem? (l := tables_1_8) (i := 186) rfl)) rfl a
set_option maxRecDepth 100000 in
theorem q1867 {s : State} {a : Array Value} (h : mT s) : (Jvm.Cond.selects "ShareVaultModel" ({ cls := "ShareVaultModel", name := "refusalCause", desc := "()I" } : Jvm.MethodName) ({ cls := "ShareVaultModel", name := "refusalCause", desc := "()I" } : Jvm.MethodName)).before a s = true := h _ (tin8 (List.mem_of_getElem? (l := tables_1_8) (i := 187) rfl)) rfl a
set_option maxRecDepth 100000 in
theorem q1869 {s : State} {a : Array Value} (h : mT s) : (Jvm.Cond.methodLink "ShareVaultLaw" (348 : Nat) ({ cls := "ShareVaultModel", name := "feed", desc := "(C)I" } : Jvm.MethodName)).before a s = true := h _ (tin8 (List.mem_of_getElem? (l := tables_1_8) (i := 189) rfl)) rfl a
set_option maxRecDepth 100000 in
theorem q1870 {s : State} {a : Array Value} (h : mT s) : (Jvm.Cond.instanceMethod ({ cls := "ShareVaultModel", name := "feed", desc := "(C)I" } : Jvm.MethodName)).before a s = true := h _ (tin8 (List.mem_of_getElem? (l := tables_1_8) (i := 190) rfl)) rfl a
set_option maxRecDepth 100000 in
theorem q1871 {s : State} {a : Array Value} (h : mT s) : (Jvm.Cond.selects "ShareVaultModel" ({ cls := "ShareVaultModel", name := "feed", desc := "(C)I" } : Jvm.MethodName) ({ cls := "ShareVaultModel", name := "feed", desc := "(C)I" } : Jvm.MethodName)).before a s = true := h _ (tin8 (List.mem_of_getElem? (l := tables_1_8) (i := 191) rfl)) rfl a
set_option maxRecDepth 100000 in
theorem q1873 {s : State} {a : Array Value} (h : mT s) : (Jvm.Cond.methodLink "ShareVaultLaw" (351 : Nat) ({ cls := "ShareVaultModel", name := "runCommands", desc := "()I" } : Jvm.MethodName)).before a s = true := h _ (tin8 (List.mem_of_getElem? (l := tables_1_8) (i := 193) rfl)) rfl a
set_option maxRecDepth 100000 in
theorem q1874 {s : State} {a : Array Value} (h : mT s) : (Jvm.Cond.instanceMethod ({ cls := "ShareVaultModel", name := "runCommands", desc := "()I" } : Jvm.MethodName)).before a s = true := h _ (tin8 (List.mem_of_getElem? (l := tables_1_8) (i := 194) rfl)) rfl a
set_option maxRecDepth 100000 in
theorem q1875 {s : State} {a : Array Value} (h : mT s) : (Jvm.Cond.selects "ShareVaultModel" ({ cls := "ShareVaultModel", name := "runCommands", desc := "()I" } : Jvm.MethodName) ({ cls := "ShareVaultModel", name := "runCommands", desc := "()I" } : Jvm.MethodName)).before a s = true := h _ (tin8 (List.mem_of_getElem? (l := tables_1_8) (i := 195) rfl)) rfl a
set_option maxRecDepth 100000 in
theorem q1928 {s : State} {a : Array Value} (h : mT s) : (Jvm.Cond.methodLink "ShareVaultLaw" (354 : Nat) ({ cls := "ShareVaultModel", name := "errorPosition", desc := "()I" } : Jvm.MethodName)).before a s = true := h _ (tin9 (List.mem_of_getElem? (l := tables_1_9) (i := 8) rfl)) rfl a
set_option maxRecDepth 100000 in
theorem q1929 {s : State} {a : Array Value} (h : mT s) : (Jvm.Cond.instanceMethod ({ cls := "ShareVaultModel", name := "errorPosition", desc := "()I" } : Jvm.MethodName)).before a s = true := h _ (tin9 (List.mem_of_getElem? (l := tables_1_9) (i := 9) rfl)) rfl a
set_option maxRecDepth 100000 in
theorem q1930 {s : State} {a : Array Value} (h : mT s) : (Jvm.Cond.selects "ShareVaultModel" ({ cls := "ShareVaultModel", name := "errorPosition", desc := "()I" } : Jvm.MethodName) ({ cls := "ShareVaultModel", name := "errorPosition", desc := "()I" } : Jvm.MethodName)).before a s = true := h _ (tin9 (List.mem_of_getElem? (l := tables_1_9) (i := 10) rfl)) rfl a
set_option maxRecDepth 100000 in
theorem q1932 {s : State} {a : Array Value} (h : mT s) : (Jvm.Cond.methodLink "ShareVaultLaw" (358 : Nat) ({ cls := "ShareVaultModel", name := "writeZones", desc := "()I" } : Jvm.MethodName)).before a s = true := h _ (tin9 (List.mem_of_getElem? (l := tables_1_9) (i := 12) rfl)) rfl a
set_option maxRecDepth 100000 in
theorem q1933 {s : State} {a : Array Value} (h : mT s) : (Jvm.Cond.instanceMethod ({ cls := "ShareVaultModel", name := "writeZones", desc := "()I" } : Jvm.MethodName)).before a s = true := h _ (tin9 (List.mem_of_getElem? (l := tables_1_9) (i := 13) rfl)) rfl a
set_option maxRecDepth 100000 in
theorem q1934 {s : State} {a : Array Value} (h : mT s) : (Jvm.Cond.selects "ShareVaultModel" ({ cls := "ShareVaultModel", name := "writeZones", desc := "()I" } : Jvm.MethodName) ({ cls := "ShareVaultModel", name := "writeZones", desc := "()I" } : Jvm.MethodName)).before a s = true := h _ (tin9 (List.mem_of_getElem? (l := tables_1_9) (i := 14) rfl)) rfl a
set_option maxRecDepth 100000 in
theorem q1944 {s : State} {a : Array Value} (h : mT s) : (Jvm.Cond.methodLink "ShareVaultLaw" (362 : Nat) ({ cls := "ShareVaultModel", name := "writeLog", desc := "()I" } : Jvm.MethodName)).before a s = true := h _ (tin9 (List.mem_of_getElem? (l := tables_1_9) (i := 24) rfl)) rfl a
set_option maxRecDepth 100000 in
theorem q1945 {s : State} {a : Array Value} (h : mT s) : (Jvm.Cond.instanceMethod ({ cls := "ShareVaultModel", name := "writeLog", desc := "()I" } : Jvm.MethodName)).before a s = true := h _ (tin9 (List.mem_of_getElem? (l := tables_1_9) (i := 25) rfl)) rfl a
set_option maxRecDepth 100000 in
theorem q1946 {s : State} {a : Array Value} (h : mT s) : (Jvm.Cond.selects "ShareVaultModel" ({ cls := "ShareVaultModel", name := "writeLog", desc := "()I" } : Jvm.MethodName) ({ cls := "ShareVaultModel", name := "writeLog", desc := "()I" } : Jvm.MethodName)).before a s = true := h _ (tin9 (List.mem_of_getElem? (l := tables_1_9) (i := 26) rfl)) rfl a
set_option maxRecDepth 100000 in
theorem q1948 {s : State} {a : Array Value} (h : mT s) : (Jvm.Cond.methodLink "ShareVaultLaw" (365 : Nat) ({ cls := "ShareVaultModel", name := "outputChar", desc := "(I)C" } : Jvm.MethodName)).before a s = true := h _ (tin9 (List.mem_of_getElem? (l := tables_1_9) (i := 28) rfl)) rfl a
set_option maxRecDepth 100000 in
theorem q1949 {s : State} {a : Array Value} (h : mT s) : (Jvm.Cond.instanceMethod ({ cls := "ShareVaultModel", name := "outputChar", desc := "(I)C" } : Jvm.MethodName)).before a s = true := h _ (tin9 (List.mem_of_getElem? (l := tables_1_9) (i := 29) rfl)) rfl a
set_option maxRecDepth 100000 in
theorem q1950 {s : State} {a : Array Value} (h : mT s) : (Jvm.Cond.selects "ShareVaultModel" ({ cls := "ShareVaultModel", name := "outputChar", desc := "(I)C" } : Jvm.MethodName) ({ cls := "ShareVaultModel", name := "outputChar", desc := "(I)C" } : Jvm.MethodName)).before a s = true := h _ (tin9 (List.mem_of_getElem? (l := tables_1_9) (i := 30) rfl)) rfl a
set_option maxRecDepth 100000 in
theorem q1952 {s : State} {a : Array Value} (h : mT s) : (Jvm.Cond.methodLink "ShareVaultLaw" (369 : Nat) ({ cls := "ShareVaultModel", name := "undoCount", desc := "()I" } : Jvm.MethodName)).before a s = true := h _ (tin9 (List.mem_of_getElem? (l := tables_1_9) (i := 32) rfl)) rfl a
set_option maxRecDepth 100000 in
theorem q1953 {s : State} {a : Array Value} (h : mT s) : (Jvm.Cond.instanceMethod ({ cls := "ShareVaultModel", name := "undoCount", desc := "()I" } : Jvm.MethodName)).before a s = true := h _ (tin9 (List.mem_of_getElem? (l := tables_1_9) (i := 33) rfl)) rfl a
set_option maxRecDepth 100000 in
theorem q1954 {s : State} {a : Array Value} (h : mT s) : (Jvm.Cond.selects "ShareVaultModel" ({ cls := "ShareVaultModel", name := "undoCount", desc := "()I" } : Jvm.MethodName) ({ cls := "ShareVaultModel", name := "undoCount", desc := "()I" } : Jvm.MethodName)).before a s = true := h _ (tin9 (List.mem_of_getElem? (l := tables_1_9) (i := 34) rfl)) rfl a
set_option maxRecDepth 100000 in
theorem q1956 {s : State} {a : Array Value} (h : mT s) : (Jvm.Cond.methodLink "ShareVaultLaw" (372 : Nat) ({ cls := "ShareVaultModel", name := "undo", desc := "()I" } : Jvm.MethodName)).before a s = true := h _ (tin9 (List.mem_of_getElem? (l := tables_1_9) (i := 36) rfl)) rfl a
set_option maxRecDepth 100000 in
theorem q1957 {s : State} {a : Array Value} (h : mT s) : (Jvm.Cond.instanceMethod ({ cls := "ShareVaultModel", name := "undo", desc := "()I" } : Jvm.MethodName)).before a s = true := h _ (tin9 (List.mem_of_getElem? (l := tables_1_9) (i := 37) rfl)) rfl a
set_option maxRecDepth 100000 in
theorem q1958 {s : State} {a : Array Value} (h : mT s) : (Jvm.Cond.selects "ShareVaultModel" ({ cls := "ShareVaultModel", name := "undo", desc := "()I" } : Jvm.MethodName) ({ cls := "ShareVaultModel", name := "undo", desc := "()I" } : Jvm.MethodName)).before a s = true := h _ (tin9 (List.mem_of_getElem? (l := tables_1_9) (i := 38) rfl)) rfl a
set_option maxRecDepth 100000 in
theorem q1960 {s : State} {a : Array Value} (h : mT s) : (Jvm.Cond.methodLink "ShareVaultLaw" (376 : Nat) ({ cls := "ShareVaultModel", name := "save", desc := "()I" } : Jvm.MethodName)).before a s = true := h _ (tin9 (List.mem_of_getElem? (l := tables_1_9) (i := 40) rfl)) rfl a
set_option maxRecDepth 100000 in
theorem q1961 {s : State} {a : Array Value} (h : mT s) : (Jvm.Cond.instanceMethod ({ cls := "ShareVaultModel", name := "save", desc := "()I" } : Jvm.MethodName)).before a s = true := h _ (tin9 (List.mem_of_getElem? (l := tables_1_9) (i := 41) rfl)) rfl a
set_option maxRecDepth 100000 in
theorem q1962 {s : State} {a : Array Value} (h : mT s) : (Jvm.Cond.selects "ShareVaultModel" ({ cls := "ShareVaultModel", name := "save", desc := "()I" } : Jvm.MethodName) ({ cls := "ShareVaultModel", name := "save", desc := "()I" } : Jvm.MethodName)).before a s = true := h _ (tin9 (List.mem_of_getElem? (l := tables_1_9) (i := 42) rfl)) rfl a
set_option maxRecDepth 100000 in
theorem q1964 {s : State} {a : Array Value} (h : mT s) : (Jvm.Cond.methodLink "ShareVaultLaw" (379 : Nat) ({ cls := "ShareVaultModel", name := "restore", desc := "()I" } : Jvm.MethodName)).before a s = true := h _ (tin9 (List.mem_of_getElem? (l := tables_1_9) (i := 44) rfl)) rfl a
set_option maxRecDepth 100000 in
theorem q1965 {s : State} {a : Array Value} (h : mT s) : (Jvm.Cond.instanceMethod ({ cls := "ShareVaultModel", name := "restore", desc := "()I" } : Jvm.MethodName)).before a s = true := h _ (tin9 (List.mem_of_getElem? (l := tables_1_9) (i := 45) rfl)) rfl a
set_option maxRecDepth 100000 in
theorem q1966 {s : State} {a : Array Value} (h : mT s) : (Jvm.Cond.selects "ShareVaultModel" ({ cls := "ShareVaultModel", name := "restore", desc := "()I" } : Jvm.MethodName) ({ cls := "ShareVaultModel", name := "restore", desc := "()I" } : Jvm.MethodName)).before a s = true := h _ (tin9 (List.mem_of_getElem? (l := tables_1_9) (i := 46) rfl)) rfl a
set_option maxRecDepth 100000 in
theorem q0 {s : State} {a : Array Value} (h : mT s) : (Jvm.Cond.initialized "ShareVaultLaw").before a s = true := h _ (tin1 (List.mem_of_getElem? (l := tables_1_1) (i := 0) rfl)) rfl a
/-- the cast to char -/
def lI2C (v : Int32) : Int32 := (v.toUInt32 % 65536).toInt32
/-- the law's locals at the head of its loop -/
abbrev lLoc (w : WD) (b oL oD i0 : Nat) : List (Nat × Value) := [(0, .ref b), (1, .ref (w.1 12 16)), (2, .ref (w.1 12 47)), (3, .ref oL), (4, .ref oD), (5, .int (Int32.ofNat i0))]
theorem lg_cmp0 (v : Int64) : lg_cmp v v = 0 := by
  unfold lg_cmp
  simp
theorem l_cw {R : Room} {s : State} {args : Array Value} {y : MethodName} {bytes : ByteArray} {maxL n idx mc ms : Nat} {hh : List (Nat × Nat × Nat × Nat)} {rm : Room} {own : String} (hT : mT s) (hcode : Cond.codeWith y bytes maxL (some .int) hh ∈ lw_tbl) (hlink : (Cond.methodLink own idx y).before args s = true) (hst : (Cond.static y).before args s = true) (hini : (Cond.initialized y.cls).before args s = true)
    (hd : y.cls ≠ "java/lang/invoke/MethodHandle" ∧ y.cls ≠ "java/lang/invoke/VarHandle" ∧ (parseMethodDescriptor y.desc).map (fun d => d.parameters.length) = some n) (hrm : rm.cells = mc ∧ rm.slots = ms ∧ rm.frames + 1 ≤ R.frames ∧ 8 + (maxL + 11) + rm.locals ≤ R.locals) :
    vx_CSW R s args own idx y bytes maxL (some .int) hh [Cond.codeWith y bytes maxL (some .int) hh] rm mc ms n := by
  refine ⟨⟨hrm.1, hrm.2.1, hrm.2.2.1, hrm.2.2.2, fun w hw a' U hW => ?_, List.mem_cons_self⟩, hT _ hcode rfl _, hini, ⟨hd.1, hd.2.1⟩, fun sig h => ?_, hlink, hst⟩
  · obtain rfl := List.mem_singleton.mp hw
    exact word_at hW (good_of_word rfl) (hT _ hcode rfl args)
  · have h2 := hd.2.2
    rw [h] at h2
    exact (Option.some.inj h2).symm
section LCASE
variable {p : Program} {l : Launch} {e : Env} {R : Room} {s : State} {m : MethodId} {args : Array Value} {below : List Frame} {meth : Method} {c : Code} {H : Heap} {locs : List Loc} {cells slots : Nat} {Q : State → Prop}
variable {cc : ByteArray} {pc : Nat} {ls : Array Slot} {rest : List Value} {w : WD} {M : Mem} {oL oD b L : Nat} {xs : Nat → Int32} {cL cD : ClassId} {x : Int64} {y : UInt64}
/-- script[i + j] -/
theorem l_arg {i0 j : Nat} {jn : Int} (hx : p.tables.exec = Jvm.exec) (hb : c.code = cc) (hI : lI w s H locs oL oD cL cD x y b L xs M) (hi : i0 + 4 < L) (hL : L ≤ 2560) (hj : j ≤ 4) (h0 : ls[0]? = some (.val (.ref b))) (h5 : ls[5]? = some (.val (.int (Int32.ofNat i0)))) (d0 : decode cc pc = .ok (.aload_n 0, 1)) (hjn : Int32.ofInt jn = Int32.ofNat j)
    (d1 : decode cc (pc + 1) = .ok (.iload 5, 2)) (d2 : decode cc (pc + 3) = .ok (.iconst jn, 1)) (d3 : decode cc (pc + 4) = .ok (.iadd, 1)) (d4 : decode cc (pc + 5) = .ok (.iaload, 1))
    (kk : W p l e R s m args below meth c H locs cells slots Q (F0 m (pc + 6) ls (.int (xs (i0 + j)) :: rest))) : W p l e R s m args below meth c H locs cells slots Q (F0 m pc ls rest) := by
  obtain ⟨hm, -, -, -, -, -, -, hX, hbl⟩ := hI
  refine lv_aload_n hx hb d0 rfl h0 ?_
  refine lv_iload hx hb d1 h5 ?_
  refine lv_iconst (v := Int32.ofNat j) hx hb d2 hjn ?_
  refine lv_iadd hx hb d3 ?_
  have e1 : Int32.ofNat i0 + Int32.ofNat j = Int32.ofNat (i0 + j) := (Int32.ofNat_add i0 j).symm
  rw [e1]
  have e2 : (Int32.ofNat (i0 + j)).toNatClampNeg = i0 + j := nI_clamp (n := i0 + j) (by omega)
  refine va_sld hx hb hX hbl (Nat.not_le.mpr hbl) hm.S (i := Int32.ofNat (i0 + j)) ?_ d4 ?_
  · have h9 : ∀ i : Nat, i < 2565 → ¬ (Int32.ofNat i < 0) := by decide +kernel
    rintro (h | h)
    · exact h9 (i0 + j) (by omega) h
    · rw [e2] at h
      omega
  · rw [e2]
    exact kk
/-- .. != 0 -/
theorem l_bool {v : Int32} (hx : p.tables.exec = Jvm.exec) (hb : c.code = cc) (d0 : decode cc pc = .ok (.ifCond .eq 7, 3)) (d1 : decode cc (pc + 3) = .ok (.iconst 1, 1)) (d2 : decode cc (pc + 4) = .ok (.goto 4, 3)) (d3 : decode cc (pc + 7) = .ok (.iconst 0, 1))
    (kk : W p l e R s m args below meth c H locs cells slots Q (F0 m (pc + 8) ls (.int (if v = 0 then 0 else 1) :: rest))) : W p l e R s m args below meth c H locs cells slots Q (F0 m pc ls (.int v :: rest)) := by
  refine lv_if_eq (tgt := pc + 7) hx hb d0 (by omega) (fun c1 => ?_) (fun c1 => ?_)
  · rw [if_pos c1] at kk
    exact lv_iconst (v := 0) hx hb d3 (by decide) kk
  · rw [if_neg c1] at kk
    refine lv_iconst (v := 1) hx hb d1 (by decide) ?_
    exact lv_goto (tgt := pc + 8) hx hb d2 (by omega) kk
theorem l_lbool {v : Int32} (hx : p.tables.exec = Jvm.exec) (hb : c.code = cc) (d0 : decode cc pc = .ok (.ifCond .eq 7, 3)) (d1 : decode cc (pc + 3) = .ok (.lconst 1, 1)) (d2 : decode cc (pc + 4) = .ok (.goto 4, 3)) (d3 : decode cc (pc + 7) = .ok (.lconst 0, 1))
    (kk : W p l e R s m args below meth c H locs cells slots Q (F0 m (pc + 8) ls (.long (if v = 0 then 0 else 1) :: rest))) : W p l e R s m args below meth c H locs cells slots Q (F0 m pc ls (.int v :: rest)) := by
  refine lv_if_eq (tgt := pc + 7) hx hb d0 (by omega) (fun c1 => ?_) (fun c1 => ?_)
  · rw [if_pos c1] at kk
    exact lv_lconst (v := 0) hx hb d3 (by decide) kk
  · rw [if_neg c1] at kk
    refine lv_lconst (v := 1) hx hb d1 (by decide) ?_
    exact lv_goto (tgt := pc + 8) hx hb d2 (by omega) kk
theorem l_lald (hx : p.tables.exec = Jvm.exec) (hb : c.code = cc) (hI : lI w s H locs oL oD cL cD x y b L xs M) (hdg : decode cc pc = .ok (.laload, 1))
    (kk : W p l e R s m args below meth c H locs cells slots Q (F0 m (pc + 1) ls (.long x :: rest))) : W p l e R s m args below meth c H locs cells slots Q (F0 m pc ls (.int 0 :: .ref oL :: rest)) := by
  obtain ⟨hm, hc, -, -, -, -, har, -⟩ := hI
  have hA : H[oL]? = some (vp_cell cL (1, .inr (.inl fun _ => x))) := hc
  exact W.lald (v := .long x) hx hb hA (har.1 1 (fun j => .long x)) (fun q => by cases q) (by show ¬ ((0 : Int32) < 0 ∨ (arrV _ _ _).slots.size ≤ _); rw [arrV_size]; show ¬ ((0 : Int32) < 0 ∨ 1 ≤ (0 : Int32).toNatClampNeg); decide) (by show (arrV _ _ _).slots[_]? = _; rw [arrV_read _ _ (show (0 : Int32).toNatClampNeg < 1 by decide)]) rfl rfl hdg kk
theorem l_dald (hx : p.tables.exec = Jvm.exec) (hb : c.code = cc) (hI : lI w s H locs oL oD cL cD x y b L xs M) (hdg : decode cc pc = .ok (.daload, 1))
    (kk : W p l e R s m args below meth c H locs cells slots Q (F0 m (pc + 1) ls (.double y :: rest))) : W p l e R s m args below meth c H locs cells slots Q (F0 m pc ls (.int 0 :: .ref oD :: rest)) := by
  obtain ⟨hm, -, hc, -, -, -, har, -⟩ := hI
  have hA : H[oD]? = some (vp_cell cD (1, .inr (.inr (.inr (.inl fun _ => y))))) := hc
  exact W.dald (v := .double y) hx hb hA (har.2 1 (fun j => .double y)) (fun q => by cases q) (by show ¬ ((0 : Int32) < 0 ∨ (arrV _ _ _).slots.size ≤ _); rw [arrV_size]; show ¬ ((0 : Int32) < 0 ∨ 1 ≤ (0 : Int32).toNatClampNeg); decide) (by show (arrV _ _ _).slots[_]? = _; rw [arrV_read _ _ (show (0 : Int32).toNatClampNeg < 1 by decide)]) rfl rfl hdg kk
end LCASE
set_option maxRecDepth 100000 in
theorem l_c0 {p : Program} {l : Launch} {e : Env} {R : Room} {s : State} {m : MethodId} {args : Array Value} {below : List Frame} {meth : Method} {c : Code} {H : Heap} {locs : List Loc} {cells slots : Nat} {Q : State → Prop} {ls : Array Slot} {w : WD} {oL oD b L i0 : Nat} {xs : Nat → Int32} {cL cD : ClassId} {x : Int64} {y : UInt64} (hsf : l.stackTraces = false) (hx : p.tables.exec = Jvm.exec) (hb : c.code = cL_law) (hml : c.maxLocals = 10) (hown : s.vm.findClass "ShareVaultLaw" = some m.cls) (hR : 13 ≤ R.frames ∧ 400 ≤ R.locals ∧ cells + 2 ≤ R.cells ∧ slots + 12 ≤ R.slots) (hi : i0 + 4 < L) (hLL : L ≤ 2560) (hl : lv_has ls 10 (lLoc w b oL oD i0)) {M M1 M2 : Mem} {o : Nat ⊕ Int32} {r k : Int32} {x1 : Int64} (hI : lI w s H locs oL oD cL cD x y b L xs M) (h1 : f_X11_addHolder M = some (o, M1)) (hres : hRes [(3, 1)] (fun v => v.toInt64) x o k x1) (h2 : f_X12_addHolder M1 = some (r, M2)) (hth : M2 12 47 0 = k) (hag : k = 0 → x1 = r.toInt64) (kk : ∀ (H1 : Heap) (locs1 : List Loc) (ls1 : Array Slot), lv_has ls1 10 (lLoc w b oL oD i0) → lI w s H1 locs1 oL oD cL cD x1 y b L xs M2 → W p l e R s m args below meth c H1 locs1 (cells + 1) (slots + 6) Q (F0 m 2998 ls1 [])) : W p l e R s m args below meth c H locs cells slots Q (F0 m 304 ls []) := by
  refine lv_aload_n hx hb dL_law_304 rfl (lv_at hl 1 rfl) ?_
  refine lv_aload_n hx hb dL_law_305 rfl (lv_at hl 3 rfl) ?_
  refine l_help (As := [.ref (w.1 12 16), .ref oL]) (rest := []) hx hb hml hown hI (h_addHolder l w hsf H.size oL cL x M o M1 h1 k x1 hres) (l_cw (n := 2) hI.1.T (tin3 (List.mem_of_getElem? (l := tables_1_3) (i := 81) rfl)) (q559 hI.1.T) (q560 hI.1.T) (q0 hI.1.T) (by decide +kernel) ⟨rfl, rfl, (Nat.le_trans (Nat.le_of_ble_eq_true rfl) hR.1), (Nat.le_trans (Nat.le_of_ble_eq_true rfl) hR.2.1)⟩) rfl hl.1 (Nat.le_of_ble_eq_true rfl) dL_law_306 ⟨Nat.le_trans (Nat.add_le_add_left (Nat.le_of_ble_eq_true rfl) _) hR.2.2.1, Nat.le_trans (Nat.add_le_add_left (Nat.le_of_ble_eq_true rfl) _) hR.2.2.2⟩ (fun H locs hI => ?_)
  refine lv_istore (lv' := [(6, .int k), (0, .ref b), (1, .ref (w.1 12 16)), (2, .ref (w.1 12 47)), (3, .ref oL), (4, .ref oD), (5, .int (Int32.ofNat i0))]) hx hb dL_law_309 hl (by decide) rfl (fun ls hl => ?_)
  refine lv_aload_n hx hb dL_law_311 rfl (lv_at hl 3 rfl) ?_
  refine l_callV (As := []) (rest := []) hx hb hml hown hI (c_X12_addHolder l w H.size M1 r M2 h2) (kb_X12_addHolder hI.1.T (q1500 hI.1.T) (Nat.le_trans (Nat.le_of_ble_eq_true rfl) hR.1) (Nat.le_trans (Nat.le_of_ble_eq_true rfl) hR.2.1)) (q1501 hI.1.T) (q1502 hI.1.T) (m_recv hI.1 (mokX (by decide) (by decide)) rfl rfl) rfl hl.1 (Nat.le_of_ble_eq_true rfl) dL_law_312 ⟨(Nat.le_trans (Nat.add_le_add_left (Nat.le_of_ble_eq_true rfl) _) hR.2.2.1), (Nat.le_trans (Nat.add_le_add_left (Nat.le_of_ble_eq_true rfl) _) hR.2.2.2)⟩ (fun H locs hI => ?_)
  refine lv_istore (lv' := [(7, .int r), (6, .int k), (0, .ref b), (1, .ref (w.1 12 16)), (2, .ref (w.1 12 47)), (3, .ref oL), (4, .ref oD), (5, .int (Int32.ofNat i0))]) hx hb dL_law_315 hl (by decide) rfl (fun ls hl => ?_)
  refine lv_aload_n hx hb dL_law_317 rfl (lv_at hl 4 rfl) ?_
  refine l_callV (As := []) (rest := []) hx hb hml hown hI (c_X12_thrown l w H.size M2 (M2 12 47 0) rfl) (kb_X12_thrown hI.1.T (q1496 hI.1.T) (Nat.le_trans (Nat.le_of_ble_eq_true rfl) hR.1) (Nat.le_trans (Nat.le_of_ble_eq_true rfl) hR.2.1)) (q1497 hI.1.T) (q1498 hI.1.T) (m_recv hI.1 (mokX (by decide) (by decide)) rfl rfl) rfl hl.1 (Nat.le_of_ble_eq_true rfl) dL_law_318 ⟨(Nat.le_trans (Nat.add_le_add_left (Nat.le_of_ble_eq_true rfl) _) hR.2.2.1), (Nat.le_trans (Nat.add_le_add_left (Nat.le_of_ble_eq_true rfl) _) hR.2.2.2)⟩ (fun H locs hI => ?_)
  refine lv_iload hx hb dL_law_321 (lv_at hl 1 rfl) ?_
  refine lv_icmp_eq (tgt := 328) hx hb dL_law_323 (by decide) (fun _ => ?_) (fun c2 => absurd hth c2)
  refine lv_iload hx hb dL_law_328 (lv_at hl 1 rfl) ?_
  refine lv_if_ne (tgt := 345) hx hb dL_law_330 (by decide) (fun _ => ?_) (fun c2 => ?_)
  · refine lv_goto (tgt := 2998) hx hb dL_law_345 (by decide) ?_
    exact kk H locs ls (lv_sub hl [2, 3, 4, 5, 6, 7] rfl) hI
  refine lv_aload_n hx hb dL_law_333 rfl (lv_at hl 5 rfl) ?_
  refine lv_iconst (v := 0) hx hb dL_law_334 (by decide) ?_
  refine l_lald hx hb hI dL_law_335 ?_
  refine lv_iload hx hb dL_law_336 (lv_at hl 0 rfl) ?_
  refine lv_i2l (v := r.toInt64) hx hb dL_law_338 rfl ?_
  refine W.lcmp hx hb dL_law_339 ?_
  refine lv_if_eq (tgt := 345) hx hb dL_law_340 (by decide) (fun _ => ?_) (fun c3 => absurd (by rw [hag c2]; exact lg_cmp0 _) c3)
  refine lv_goto (tgt := 2998) hx hb dL_law_345 (by decide) ?_
  exact kk H locs ls (lv_sub hl [2, 3, 4, 5, 6, 7] rfl) hI
set_option maxRecDepth 100000 in
theorem l_c1 {p : Program} {l : Launch} {e : Env} {R : Room} {s : State} {m : MethodId} {args : Array Value} {below : List Frame} {meth : Method} {c : Code} {H : Heap} {locs : List Loc} {cells slots : Nat} {Q : State → Prop} {ls : Array Slot} {w : WD} {oL oD b L i0 : Nat} {xs : Nat → Int32} {cL cD : ClassId} {x : Int64} {y : UInt64} (hsf : l.stackTraces = false) (hx : p.tables.exec = Jvm.exec) (hb : c.code = cL_law) (hml : c.maxLocals = 10) (hown : s.vm.findClass "ShareVaultLaw" = some m.cls) (hR : 13 ≤ R.frames ∧ 400 ≤ R.locals ∧ cells + 2 ≤ R.cells ∧ slots + 12 ≤ R.slots) (hi : i0 + 4 < L) (hLL : L ≤ 2560) (hl : lv_has ls 10 (lLoc w b oL oD i0)) {M M1 M2 : Mem} {o : Nat ⊕ Int32} {r k : Int32} {x1 : Int64} (hI : lI w s H locs oL oD cL cD x y b L xs M) (h1 : f_X11_seal (xs (i0 + 1)) (xs (i0 + 2)) (xs (i0 + 3)) (xs (i0 + 4)) M = some (o, M1)) (hres : hRes [(2, 1), (3, 2)] (fun v => v.toInt64) x o k x1) (h2 : f_X12_seal (xs (i0 + 1)) (xs (i0 + 2)) (xs (i0 + 3)) (xs (i0 + 4)) M1 = some (r, M2)) (hth : M2 12 47 0 = k) (hag : k = 0 → x1 = r.toInt64) (kk : ∀ (H1 : Heap) (locs1 : List Loc) (ls1 : Array Slot), lv_has ls1 10 (lLoc w b oL oD i0) → lI w s H1 locs1 oL oD cL cD x1 y b L xs M2 → W p l e R s m args below meth c H1 locs1 (cells + 1) (slots + 6) Q (F0 m 2998 ls1 [])) : W p l e R s m args below meth c H locs cells slots Q (F0 m 348 ls []) := by
  refine lv_aload_n hx hb dL_law_348 rfl (lv_at hl 1 rfl) ?_
  refine l_arg (j := 1) hx hb hI hi hLL (by decide) (lv_at hl 0 rfl) (lv_at hl 5 rfl) dL_law_349 (by decide) dL_law_350 dL_law_352 dL_law_353 dL_law_354 ?_
  refine l_arg (j := 2) hx hb hI hi hLL (by decide) (lv_at hl 0 rfl) (lv_at hl 5 rfl) dL_law_355 (by decide) dL_law_356 dL_law_358 dL_law_359 dL_law_360 ?_
  refine l_arg (j := 3) hx hb hI hi hLL (by decide) (lv_at hl 0 rfl) (lv_at hl 5 rfl) dL_law_361 (by decide) dL_law_362 dL_law_364 dL_law_365 dL_law_366 ?_
  refine l_arg (j := 4) hx hb hI hi hLL (by decide) (lv_at hl 0 rfl) (lv_at hl 5 rfl) dL_law_367 (by decide) dL_law_368 dL_law_370 dL_law_371 dL_law_372 ?_
  refine lv_aload_n hx hb dL_law_373 rfl (lv_at hl 3 rfl) ?_
  refine l_help (As := [.ref (w.1 12 16), .int (xs (i0 + 1)), .int (xs (i0 + 2)), .int (xs (i0 + 3)), .int (xs (i0 + 4)), .ref oL]) (rest := []) hx hb hml hown hI (h_seal l w hsf H.size oL cL x (xs (i0 + 1)) (xs (i0 + 2)) (xs (i0 + 3)) (xs (i0 + 4)) M o M1 h1 k x1 hres) (l_cw (n := 6) hI.1.T (tin3 (List.mem_of_getElem? (l := tables_1_3) (i := 232) rfl)) (q710 hI.1.T) (q711 hI.1.T) (q0 hI.1.T) (by decide +kernel) ⟨rfl, rfl, (Nat.le_trans (Nat.le_of_ble_eq_true rfl) hR.1), (Nat.le_trans (Nat.le_of_ble_eq_true rfl) hR.2.1)⟩) rfl hl.1 (Nat.le_of_ble_eq_true rfl) dL_law_374 ⟨Nat.le_trans (Nat.add_le_add_left (Nat.le_of_ble_eq_true rfl) _) hR.2.2.1, Nat.le_trans (Nat.add_le_add_left (Nat.le_of_ble_eq_true rfl) _) hR.2.2.2⟩ (fun H locs hI => ?_)
  refine lv_istore (lv' := [(6, .int k), (0, .ref b), (1, .ref (w.1 12 16)), (2, .ref (w.1 12 47)), (3, .ref oL), (4, .ref oD), (5, .int (Int32.ofNat i0))]) hx hb dL_law_377 hl (by decide) rfl (fun ls hl => ?_)
  refine lv_aload_n hx hb dL_law_379 rfl (lv_at hl 3 rfl) ?_
  refine l_arg (j := 1) hx hb hI hi hLL (by decide) (lv_at hl 1 rfl) (lv_at hl 6 rfl) dL_law_380 (by decide) dL_law_381 dL_law_383 dL_law_384 dL_law_385 ?_
  refine l_arg (j := 2) hx hb hI hi hLL (by decide) (lv_at hl 1 rfl) (lv_at hl 6 rfl) dL_law_386 (by decide) dL_law_387 dL_law_389 dL_law_390 dL_law_391 ?_
  refine l_arg (j := 3) hx hb hI hi hLL (by decide) (lv_at hl 1 rfl) (lv_at hl 6 rfl) dL_law_392 (by decide) dL_law_393 dL_law_395 dL_law_396 dL_law_397 ?_
  refine l_arg (j := 4) hx hb hI hi hLL (by decide) (lv_at hl 1 rfl) (lv_at hl 6 rfl) dL_law_398 (by decide) dL_law_399 dL_law_401 dL_law_402 dL_law_403 ?_
  refine l_callV (As := [.int (xs (i0 + 1)), .int (xs (i0 + 2)), .int (xs (i0 + 3)), .int (xs (i0 + 4))]) (rest := []) hx hb hml hown hI (c_X12_seal l w H.size (xs (i0 + 1)) (xs (i0 + 2)) (xs (i0 + 3)) (xs (i0 + 4)) M1 r M2 h2) (kb_X12_seal hI.1.T (q1536 hI.1.T) (Nat.le_trans (Nat.le_of_ble_eq_true rfl) hR.1) (Nat.le_trans (Nat.le_of_ble_eq_true rfl) hR.2.1)) (q1537 hI.1.T) (q1538 hI.1.T) (m_recv hI.1 (mokX (by decide) (by decide)) rfl rfl) rfl hl.1 (Nat.le_of_ble_eq_true rfl) dL_law_404 ⟨(Nat.le_trans (Nat.add_le_add_left (Nat.le_of_ble_eq_true rfl) _) hR.2.2.1), (Nat.le_trans (Nat.add_le_add_left (Nat.le_of_ble_eq_true rfl) _) hR.2.2.2)⟩ (fun H locs hI => ?_)
  refine lv_istore (lv' := [(7, .int r), (6, .int k), (0, .ref b), (1, .ref (w.1 12 16)), (2, .ref (w.1 12 47)), (3, .ref oL), (4, .ref oD), (5, .int (Int32.ofNat i0))]) hx hb dL_law_407 hl (by decide) rfl (fun ls hl => ?_)
  refine lv_aload_n hx hb dL_law_409 rfl (lv_at hl 4 rfl) ?_
  refine l_callV (As := []) (rest := []) hx hb hml hown hI (c_X12_thrown l w H.size M2 (M2 12 47 0) rfl) (kb_X12_thrown hI.1.T (q1496 hI.1.T) (Nat.le_trans (Nat.le_of_ble_eq_true rfl) hR.1) (Nat.le_trans (Nat.le_of_ble_eq_true rfl) hR.2.1)) (q1497 hI.1.T) (q1498 hI.1.T) (m_recv hI.1 (mokX (by decide) (by decide)) rfl rfl) rfl hl.1 (Nat.le_of_ble_eq_true rfl) dL_law_410 ⟨(Nat.le_trans (Nat.add_le_add_left (Nat.le_of_ble_eq_true rfl) _) hR.2.2.1), (Nat.le_trans (Nat.add_le_add_left (Nat.le_of_ble_eq_true rfl) _) hR.2.2.2)⟩ (fun H locs hI => ?_)
  refine lv_iload hx hb dL_law_413 (lv_at hl 1 rfl) ?_
  refine lv_icmp_eq (tgt := 420) hx hb dL_law_415 (by decide) (fun _ => ?_) (fun c2 => absurd hth c2)
  refine lv_iload hx hb dL_law_420 (lv_at hl 1 rfl) ?_
  refine lv_if_ne (tgt := 437) hx hb dL_law_422 (by decide) (fun _ => ?_) (fun c2 => ?_)
  · refine lv_goto (tgt := 2998) hx hb dL_law_437 (by decide) ?_
    exact kk H locs ls (lv_sub hl [2, 3, 4, 5, 6, 7] rfl) hI
  refine lv_aload_n hx hb dL_law_425 rfl (lv_at hl 5 rfl) ?_
  refine lv_iconst (v := 0) hx hb dL_law_426 (by decide) ?_
  refine l_lald hx hb hI dL_law_427 ?_
  refine lv_iload hx hb dL_law_428 (lv_at hl 0 rfl) ?_
  refine lv_i2l (v := r.toInt64) hx hb dL_law_430 rfl ?_
  refine W.lcmp hx hb dL_law_431 ?_
  refine lv_if_eq (tgt := 437) hx hb dL_law_432 (by decide) (fun _ => ?_) (fun c3 => absurd (by rw [hag c2]; exact lg_cmp0 _) c3)
  refine lv_goto (tgt := 2998) hx hb dL_law_437 (by decide) ?_
  exact kk H locs ls (lv_sub hl [2, 3, 4, 5, 6, 7] rfl) hI
set_option maxRecDepth 100000 in
theorem l_c2 {p : Program} {l : Launch} {e : Env} {R : Room} {s : State} {m : MethodId} {args : Array Value} {below : List Frame} {meth : Method} {c : Code} {H : Heap} {locs : List Loc} {cells slots : Nat} {Q : State → Prop} {ls : Array Slot} {w : WD} {oL oD b L i0 : Nat} {xs : Nat → Int32} {cL cD : ClassId} {x : Int64} {y : UInt64} (hsf : l.stackTraces = false) (hx : p.tables.exec = Jvm.exec) (hb : c.code = cL_law) (hml : c.maxLocals = 10) (hown : s.vm.findClass "ShareVaultLaw" = some m.cls) (hR : 13 ≤ R.frames ∧ 400 ≤ R.locals ∧ cells + 2 ≤ R.cells ∧ slots + 12 ≤ R.slots) (hi : i0 + 4 < L) (hLL : L ≤ 2560) (hl : lv_has ls 10 (lLoc w b oL oD i0)) {M M1 M2 : Mem} {o : Nat ⊕ Int32} {r k : Int32} {x1 : Int64} (hI : lI w s H locs oL oD cL cD x y b L xs M) (h1 : f_X11_setShare (xs (i0 + 1)) (xs (i0 + 2)) M = some (o, M1)) (hres : hRes [(1, 1), (2, 2), (3, 3)] (fun v => v.toInt64) x o k x1) (h2 : f_X12_setShare (xs (i0 + 1)) (xs (i0 + 2)) M1 = some (r, M2)) (hth : M2 12 47 0 = k) (hag : k = 0 → x1 = r.toInt64) (kk : ∀ (H1 : Heap) (locs1 : List Loc) (ls1 : Array Slot), lv_has ls1 10 (lLoc w b oL oD i0) → lI w s H1 locs1 oL oD cL cD x1 y b L xs M2 → W p l e R s m args below meth c H1 locs1 (cells + 1) (slots + 6) Q (F0 m 2998 ls1 [])) : W p l e R s m args below meth c H locs cells slots Q (F0 m 440 ls []) := by
  refine lv_aload_n hx hb dL_law_440 rfl (lv_at hl 1 rfl) ?_
  refine l_arg (j := 1) hx hb hI hi hLL (by decide) (lv_at hl 0 rfl) (lv_at hl 5 rfl) dL_law_441 (by decide) dL_law_442 dL_law_444 dL_law_445 dL_law_446 ?_
  refine l_arg (j := 2) hx hb hI hi hLL (by decide) (lv_at hl 0 rfl) (lv_at hl 5 rfl) dL_law_447 (by decide) dL_law_448 dL_law_450 dL_law_451 dL_law_452 ?_
  refine lv_aload_n hx hb dL_law_453 rfl (lv_at hl 3 rfl) ?_
  refine l_help (As := [.ref (w.1 12 16), .int (xs (i0 + 1)), .int (xs (i0 + 2)), .ref oL]) (rest := []) hx hb hml hown hI (h_setShare l w hsf H.size oL cL x (xs (i0 + 1)) (xs (i0 + 2)) M o M1 h1 k x1 hres) (l_cw (n := 4) hI.1.T (tin4 (List.mem_of_getElem? (l := tables_1_4) (i := 15) rfl)) (q733 hI.1.T) (q734 hI.1.T) (q0 hI.1.T) (by decide +kernel) ⟨rfl, rfl, (Nat.le_trans (Nat.le_of_ble_eq_true rfl) hR.1), (Nat.le_trans (Nat.le_of_ble_eq_true rfl) hR.2.1)⟩) rfl hl.1 (Nat.le_of_ble_eq_true rfl) dL_law_454 ⟨Nat.le_trans (Nat.add_le_add_left (Nat.le_of_ble_eq_true rfl) _) hR.2.2.1, Nat.le_trans (Nat.add_le_add_left (Nat.le_of_ble_eq_true rfl) _) hR.2.2.2⟩ (fun H locs hI => ?_)
  refine lv_istore (lv' := [(6, .int k), (0, .ref b), (1, .ref (w.1 12 16)), (2, .ref (w.1 12 47)), (3, .ref oL), (4, .ref oD), (5, .int (Int32.ofNat i0))]) hx hb dL_law_457 hl (by decide) rfl (fun ls hl => ?_)
  refine lv_aload_n hx hb dL_law_459 rfl (lv_at hl 3 rfl) ?_
  refine l_arg (j := 1) hx hb hI hi hLL (by decide) (lv_at hl 1 rfl) (lv_at hl 6 rfl) dL_law_460 (by decide) dL_law_461 dL_law_463 dL_law_464 dL_law_465 ?_
  refine l_arg (j := 2) hx hb hI hi hLL (by decide) (lv_at hl 1 rfl) (lv_at hl 6 rfl) dL_law_466 (by decide) dL_law_467 dL_law_469 dL_law_470 dL_law_471 ?_
  refine l_callV (As := [.int (xs (i0 + 1)), .int (xs (i0 + 2))]) (rest := []) hx hb hml hown hI (c_X12_setShare l w H.size (xs (i0 + 1)) (xs (i0 + 2)) M1 r M2 h2) (kb_X12_setShare hI.1.T (q1551 hI.1.T) (Nat.le_trans (Nat.le_of_ble_eq_true rfl) hR.1) (Nat.le_trans (Nat.le_of_ble_eq_true rfl) hR.2.1)) (q1552 hI.1.T) (q1553 hI.1.T) (m_recv hI.1 (mokX (by decide) (by decide)) rfl rfl) rfl hl.1 (Nat.le_of_ble_eq_true rfl) dL_law_472 ⟨(Nat.le_trans (Nat.add_le_add_left (Nat.le_of_ble_eq_true rfl) _) hR.2.2.1), (Nat.le_trans (Nat.add_le_add_left (Nat.le_of_ble_eq_true rfl) _) hR.2.2.2)⟩ (fun H locs hI => ?_)
  refine lv_istore (lv' := [(7, .int r), (6, .int k), (0, .ref b), (1, .ref (w.1 12 16)), (2, .ref (w.1 12 47)), (3, .ref oL), (4, .ref oD), (5, .int (Int32.ofNat i0))]) hx hb dL_law_475 hl (by decide) rfl (fun ls hl => ?_)
  refine lv_aload_n hx hb dL_law_477 rfl (lv_at hl 4 rfl) ?_
  refine l_callV (As := []) (rest := []) hx hb hml hown hI (c_X12_thrown l w H.size M2 (M2 12 47 0) rfl) (kb_X12_thrown hI.1.T (q1496 hI.1.T) (Nat.le_trans (Nat.le_of_ble_eq_true rfl) hR.1) (Nat.le_trans (Nat.le_of_ble_eq_true rfl) hR.2.1)) (q1497 hI.1.T) (q1498 hI.1.T) (m_recv hI.1 (mokX (by decide) (by decide)) rfl rfl) rfl hl.1 (Nat.le_of_ble_eq_true rfl) dL_law_478 ⟨(Nat.le_trans (Nat.add_le_add_left (Nat.le_of_ble_eq_true rfl) _) hR.2.2.1), (Nat.le_trans (Nat.add_le_add_left (Nat.le_of_ble_eq_true rfl) _) hR.2.2.2)⟩ (fun H locs hI => ?_)
  refine lv_iload hx hb dL_law_481 (lv_at hl 1 rfl) ?_
  refine lv_icmp_eq (tgt := 488) hx hb dL_law_483 (by decide) (fun _ => ?_) (fun c2 => absurd hth c2)
  refine lv_iload hx hb dL_law_488 (lv_at hl 1 rfl) ?_
  refine lv_if_ne (tgt := 505) hx hb dL_law_490 (by decide) (fun _ => ?_) (fun c2 => ?_)
  · refine lv_goto (tgt := 2998) hx hb dL_law_505 (by decide) ?_
    exact kk H locs ls (lv_sub hl [2, 3, 4, 5, 6, 7] rfl) hI
  refine lv_aload_n hx hb dL_law_493 rfl (lv_at hl 5 rfl) ?_
  refine lv_iconst (v := 0) hx hb dL_law_494 (by decide) ?_
  refine l_lald hx hb hI dL_law_495 ?_
  refine lv_iload hx hb dL_law_496 (lv_at hl 0 rfl) ?_
  refine lv_i2l (v := r.toInt64) hx hb dL_law_498 rfl ?_
  refine W.lcmp hx hb dL_law_499 ?_
  refine lv_if_eq (tgt := 505) hx hb dL_law_500 (by decide) (fun _ => ?_) (fun c3 => absurd (by rw [hag c2]; exact lg_cmp0 _) c3)
  refine lv_goto (tgt := 2998) hx hb dL_law_505 (by decide) ?_
  exact kk H locs ls (lv_sub hl [2, 3, 4, 5, 6, 7] rfl) hI
set_option maxRecDepth 100000 in
theorem l_c3 {p : Program} {l : Launch} {e : Env} {R : Room} {s : State} {m : MethodId} {args : Array Value} {below : List Frame} {meth : Method} {c : Code} {H : Heap} {locs : List Loc} {cells slots : Nat} {Q : State → Prop} {ls : Array Slot} {w : WD} {oL oD b L i0 : Nat} {xs : Nat → Int32} {cL cD : ClassId} {x : Int64} {y : UInt64} (hsf : l.stackTraces = false) (hx : p.tables.exec = Jvm.exec) (hb : c.code = cL_law) (hml : c.maxLocals = 10) (hown : s.vm.findClass "ShareVaultLaw" = some m.cls) (hR : 13 ≤ R.frames ∧ 400 ≤ R.locals ∧ cells + 2 ≤ R.cells ∧ slots + 12 ≤ R.slots) (hi : i0 + 4 < L) (hLL : L ≤ 2560) (hl : lv_has ls 10 (lLoc w b oL oD i0)) {M M1 M2 : Mem} {o : Nat ⊕ Int32} {r k : Int32} {x1 : Int64} (hI : lI w s H locs oL oD cL cD x y b L xs M) (h1 : f_X11_present (xs (i0 + 1)) M = some (o, M1)) (hres : hRes [(1, 1), (3, 2)] (fun v => v.toInt64) x o k x1) (h2 : f_X12_present (xs (i0 + 1)) M1 = some (r, M2)) (hth : M2 12 47 0 = k) (hag : k = 0 → x1 = r.toInt64) (kk : ∀ (H1 : Heap) (locs1 : List Loc) (ls1 : Array Slot), lv_has ls1 10 (lLoc w b oL oD i0) → lI w s H1 locs1 oL oD cL cD x1 y b L xs M2 → W p l e R s m args below meth c H1 locs1 (cells + 1) (slots + 6) Q (F0 m 2998 ls1 [])) : W p l e R s m args below meth c H locs cells slots Q (F0 m 508 ls []) := by
  refine lv_aload_n hx hb dL_law_508 rfl (lv_at hl 1 rfl) ?_
  refine l_arg (j := 1) hx hb hI hi hLL (by decide) (lv_at hl 0 rfl) (lv_at hl 5 rfl) dL_law_509 (by decide) dL_law_510 dL_law_512 dL_law_513 dL_law_514 ?_
  refine lv_aload_n hx hb dL_law_515 rfl (lv_at hl 3 rfl) ?_
  refine l_help (As := [.ref (w.1 12 16), .int (xs (i0 + 1)), .ref oL]) (rest := []) hx hb hml hown hI (h_present l w hsf H.size oL cL x (xs (i0 + 1)) M o M1 h1 k x1 hres) (l_cw (n := 3) hI.1.T (tin4 (List.mem_of_getElem? (l := tables_1_4) (i := 51) rfl)) (q769 hI.1.T) (q770 hI.1.T) (q0 hI.1.T) (by decide +kernel) ⟨rfl, rfl, (Nat.le_trans (Nat.le_of_ble_eq_true rfl) hR.1), (Nat.le_trans (Nat.le_of_ble_eq_true rfl) hR.2.1)⟩) rfl hl.1 (Nat.le_of_ble_eq_true rfl) dL_law_516 ⟨Nat.le_trans (Nat.add_le_add_left (Nat.le_of_ble_eq_true rfl) _) hR.2.2.1, Nat.le_trans (Nat.add_le_add_left (Nat.le_of_ble_eq_true rfl) _) hR.2.2.2⟩ (fun H locs hI => ?_)
  refine lv_istore (lv' := [(6, .int k), (0, .ref b), (1, .ref (w.1 12 16)), (2, .ref (w.1 12 47)), (3, .ref oL), (4, .ref oD), (5, .int (Int32.ofNat i0))]) hx hb dL_law_519 hl (by decide) rfl (fun ls hl => ?_)
  refine lv_aload_n hx hb dL_law_521 rfl (lv_at hl 3 rfl) ?_
  refine l_arg (j := 1) hx hb hI hi hLL (by decide) (lv_at hl 1 rfl) (lv_at hl 6 rfl) dL_law_522 (by decide) dL_law_523 dL_law_525 dL_law_526 dL_law_527 ?_
  refine l_callV (As := [.int (xs (i0 + 1))]) (rest := []) hx hb hml hown hI (c_X12_present l w H.size (xs (i0 + 1)) M1 r M2 h2) (kb_X12_present hI.1.T (q1563 hI.1.T) (Nat.le_trans (Nat.le_of_ble_eq_true rfl) hR.1) (Nat.le_trans (Nat.le_of_ble_eq_true rfl) hR.2.1)) (q1564 hI.1.T) (q1565 hI.1.T) (m_recv hI.1 (mokX (by decide) (by decide)) rfl rfl) rfl hl.1 (Nat.le_of_ble_eq_true rfl) dL_law_528 ⟨(Nat.le_trans (Nat.add_le_add_left (Nat.le_of_ble_eq_true rfl) _) hR.2.2.1), (Nat.le_trans (Nat.add_le_add_left (Nat.le_of_ble_eq_true rfl) _) hR.2.2.2)⟩ (fun H locs hI => ?_)
  refine lv_istore (lv' := [(7, .int r), (6, .int k), (0, .ref b), (1, .ref (w.1 12 16)), (2, .ref (w.1 12 47)), (3, .ref oL), (4, .ref oD), (5, .int (Int32.ofNat i0))]) hx hb dL_law_531 hl (by decide) rfl (fun ls hl => ?_)
  refine lv_aload_n hx hb dL_law_533 rfl (lv_at hl 4 rfl) ?_
  refine l_callV (As := []) (rest := []) hx hb hml hown hI (c_X12_thrown l w H.size M2 (M2 12 47 0) rfl) (kb_X12_thrown hI.1.T (q1496 hI.1.T) (Nat.le_trans (Nat.le_of_ble_eq_true rfl) hR.1) (Nat.le_trans (Nat.le_of_ble_eq_true rfl) hR.2.1)) (q1497 hI.1.T) (q1498 hI.1.T) (m_recv hI.1 (mokX (by decide) (by decide)) rfl rfl) rfl hl.1 (Nat.le_of_ble_eq_true rfl) dL_law_534 ⟨(Nat.le_trans (Nat.add_le_add_left (Nat.le_of_ble_eq_true rfl) _) hR.2.2.1), (Nat.le_trans (Nat.add_le_add_left (Nat.le_of_ble_eq_true rfl) _) hR.2.2.2)⟩ (fun H locs hI => ?_)
  refine lv_iload hx hb dL_law_537 (lv_at hl 1 rfl) ?_
  refine lv_icmp_eq (tgt := 544) hx hb dL_law_539 (by decide) (fun _ => ?_) (fun c2 => absurd hth c2)
  refine lv_iload hx hb dL_law_544 (lv_at hl 1 rfl) ?_
  refine lv_if_ne (tgt := 561) hx hb dL_law_546 (by decide) (fun _ => ?_) (fun c2 => ?_)
  · refine lv_goto (tgt := 2998) hx hb dL_law_561 (by decide) ?_
    exact kk H locs ls (lv_sub hl [2, 3, 4, 5, 6, 7] rfl) hI
  refine lv_aload_n hx hb dL_law_549 rfl (lv_at hl 5 rfl) ?_
  refine lv_iconst (v := 0) hx hb dL_law_550 (by decide) ?_
  refine l_lald hx hb hI dL_law_551 ?_
  refine lv_iload hx hb dL_law_552 (lv_at hl 0 rfl) ?_
  refine lv_i2l (v := r.toInt64) hx hb dL_law_554 rfl ?_
  refine W.lcmp hx hb dL_law_555 ?_
  refine lv_if_eq (tgt := 561) hx hb dL_law_556 (by decide) (fun _ => ?_) (fun c3 => absurd (by rw [hag c2]; exact lg_cmp0 _) c3)
  refine lv_goto (tgt := 2998) hx hb dL_law_561 (by decide) ?_
  exact kk H locs ls (lv_sub hl [2, 3, 4, 5, 6, 7] rfl) hI
set_option maxRecDepth 100000 in
theorem l_c4 {p : Program} {l : Launch} {e : Env} {R : Room} {s : State} {m : MethodId} {args : Array Value} {below : List Frame} {meth : Method} {c : Code} {H : Heap} {locs : List Loc} {cells slots : Nat} {Q : State → Prop} {ls : Array Slot} {w : WD} {oL oD b L i0 : Nat} {xs : Nat → Int32} {cL cD : ClassId} {x : Int64} {y : UInt64} (hsf : l.stackTraces = false) (hx : p.tables.exec = Jvm.exec) (hb : c.code = cL_law) (hml : c.maxLocals = 10) (hown : s.vm.findClass "ShareVaultLaw" = some m.cls) (hR : 13 ≤ R.frames ∧ 400 ≤ R.locals ∧ cells + 2 ≤ R.cells ∧ slots + 12 ≤ R.slots) (hi : i0 + 4 < L) (hLL : L ≤ 2560) (hl : lv_has ls 10 (lLoc w b oL oD i0)) {M M1 M2 : Mem} {o : Nat ⊕ Int32} {r k : Int32} {x1 : Int64} (hI : lI w s H locs oL oD cL cD x y b L xs M) (h1 : f_X11_takeBack (xs (i0 + 1)) M = some (o, M1)) (hres : hRes [(1, 1), (3, 2)] (fun v => v.toInt64) x o k x1) (h2 : f_X12_takeBack (xs (i0 + 1)) M1 = some (r, M2)) (hth : M2 12 47 0 = k) (hag : k = 0 → x1 = r.toInt64) (kk : ∀ (H1 : Heap) (locs1 : List Loc) (ls1 : Array Slot), lv_has ls1 10 (lLoc w b oL oD i0) → lI w s H1 locs1 oL oD cL cD x1 y b L xs M2 → W p l e R s m args below meth c H1 locs1 (cells + 1) (slots + 6) Q (F0 m 2998 ls1 [])) : W p l e R s m args below meth c H locs cells slots Q (F0 m 564 ls []) := by
  refine lv_aload_n hx hb dL_law_564 rfl (lv_at hl 1 rfl) ?_
  refine l_arg (j := 1) hx hb hI hi hLL (by decide) (lv_at hl 0 rfl) (lv_at hl 5 rfl) dL_law_565 (by decide) dL_law_566 dL_law_568 dL_law_569 dL_law_570 ?_
  refine lv_aload_n hx hb dL_law_571 rfl (lv_at hl 3 rfl) ?_
  refine l_help (As := [.ref (w.1 12 16), .int (xs (i0 + 1)), .ref oL]) (rest := []) hx hb hml hown hI (h_takeBack l w hsf H.size oL cL x (xs (i0 + 1)) M o M1 h1 k x1 hres) (l_cw (n := 3) hI.1.T (tin4 (List.mem_of_getElem? (l := tables_1_4) (i := 66) rfl)) (q784 hI.1.T) (q785 hI.1.T) (q0 hI.1.T) (by decide +kernel) ⟨rfl, rfl, (Nat.le_trans (Nat.le_of_ble_eq_true rfl) hR.1), (Nat.le_trans (Nat.le_of_ble_eq_true rfl) hR.2.1)⟩) rfl hl.1 (Nat.le_of_ble_eq_true rfl) dL_law_572 ⟨Nat.le_trans (Nat.add_le_add_left (Nat.le_of_ble_eq_true rfl) _) hR.2.2.1, Nat.le_trans (Nat.add_le_add_left (Nat.le_of_ble_eq_true rfl) _) hR.2.2.2⟩ (fun H locs hI => ?_)
  refine lv_istore (lv' := [(6, .int k), (0, .ref b), (1, .ref (w.1 12 16)), (2, .ref (w.1 12 47)), (3, .ref oL), (4, .ref oD), (5, .int (Int32.ofNat i0))]) hx hb dL_law_575 hl (by decide) rfl (fun ls hl => ?_)
  refine lv_aload_n hx hb dL_law_577 rfl (lv_at hl 3 rfl) ?_
  refine l_arg (j := 1) hx hb hI hi hLL (by decide) (lv_at hl 1 rfl) (lv_at hl 6 rfl) dL_law_578 (by decide) dL_law_579 dL_law_581 dL_law_582 dL_law_583 ?_
  refine l_callV (As := [.int (xs (i0 + 1))]) (rest := []) hx hb hml hown hI (c_X12_takeBack l w H.size (xs (i0 + 1)) M1 r M2 h2) (kb_X12_takeBack hI.1.T (q1575 hI.1.T) (Nat.le_trans (Nat.le_of_ble_eq_true rfl) hR.1) (Nat.le_trans (Nat.le_of_ble_eq_true rfl) hR.2.1)) (q1576 hI.1.T) (q1577 hI.1.T) (m_recv hI.1 (mokX (by decide) (by decide)) rfl rfl) rfl hl.1 (Nat.le_of_ble_eq_true rfl) dL_law_584 ⟨(Nat.le_trans (Nat.add_le_add_left (Nat.le_of_ble_eq_true rfl) _) hR.2.2.1), (Nat.le_trans (Nat.add_le_add_left (Nat.le_of_ble_eq_true rfl) _) hR.2.2.2)⟩ (fun H locs hI => ?_)
  refine lv_istore (lv' := [(7, .int r), (6, .int k), (0, .ref b), (1, .ref (w.1 12 16)), (2, .ref (w.1 12 47)), (3, .ref oL), (4, .ref oD), (5, .int (Int32.ofNat i0))]) hx hb dL_law_587 hl (by decide) rfl (fun ls hl => ?_)
  refine lv_aload_n hx hb dL_law_589 rfl (lv_at hl 4 rfl) ?_
  refine l_callV (As := []) (rest := []) hx hb hml hown hI (c_X12_thrown l w H.size M2 (M2 12 47 0) rfl) (kb_X12_thrown hI.1.T (q1496 hI.1.T) (Nat.le_trans (Nat.le_of_ble_eq_true rfl) hR.1) (Nat.le_trans (Nat.le_of_ble_eq_true rfl) hR.2.1)) (q1497 hI.1.T) (q1498 hI.1.T) (m_recv hI.1 (mokX (by decide) (by decide)) rfl rfl) rfl hl.1 (Nat.le_of_ble_eq_true rfl) dL_law_590 ⟨(Nat.le_trans (Nat.add_le_add_left (Nat.le_of_ble_eq_true rfl) _) hR.2.2.1), (Nat.le_trans (Nat.add_le_add_left (Nat.le_of_ble_eq_true rfl) _) hR.2.2.2)⟩ (fun H locs hI => ?_)
  refine lv_iload hx hb dL_law_593 (lv_at hl 1 rfl) ?_
  refine lv_icmp_eq (tgt := 600) hx hb dL_law_595 (by decide) (fun _ => ?_) (fun c2 => absurd hth c2)
  refine lv_iload hx hb dL_law_600 (lv_at hl 1 rfl) ?_
  refine lv_if_ne (tgt := 617) hx hb dL_law_602 (by decide) (fun _ => ?_) (fun c2 => ?_)
  · refine lv_goto (tgt := 2998) hx hb dL_law_617 (by decide) ?_
    exact kk H locs ls (lv_sub hl [2, 3, 4, 5, 6, 7] rfl) hI
  refine lv_aload_n hx hb dL_law_605 rfl (lv_at hl 5 rfl) ?_
  refine lv_iconst (v := 0) hx hb dL_law_606 (by decide) ?_
  refine l_lald hx hb hI dL_law_607 ?_
  refine lv_iload hx hb dL_law_608 (lv_at hl 0 rfl) ?_
  refine lv_i2l (v := r.toInt64) hx hb dL_law_610 rfl ?_
  refine W.lcmp hx hb dL_law_611 ?_
  refine lv_if_eq (tgt := 617) hx hb dL_law_612 (by decide) (fun _ => ?_) (fun c3 => absurd (by rw [hag c2]; exact lg_cmp0 _) c3)
  refine lv_goto (tgt := 2998) hx hb dL_law_617 (by decide) ?_
  exact kk H locs ls (lv_sub hl [2, 3, 4, 5, 6, 7] rfl) hI
set_option maxRecDepth 100000 in
theorem l_c5 {p : Program} {l : Launch} {e : Env} {R : Room} {s : State} {m : MethodId} {args : Array Value} {below : List Frame} {meth : Method} {c : Code} {H : Heap} {locs : List Loc} {cells slots : Nat} {Q : State → Prop} {ls : Array Slot} {w : WD} {oL oD b L i0 : Nat} {xs : Nat → Int32} {cL cD : ClassId} {x : Int64} {y : UInt64} (hsf : l.stackTraces = false) (hx : p.tables.exec = Jvm.exec) (hb : c.code = cL_law) (hml : c.maxLocals = 10) (hown : s.vm.findClass "ShareVaultLaw" = some m.cls) (hR : 13 ≤ R.frames ∧ 400 ≤ R.locals ∧ cells + 2 ≤ R.cells ∧ slots + 12 ≤ R.slots) (hi : i0 + 4 < L) (hLL : L ≤ 2560) (hl : lv_has ls 10 (lLoc w b oL oD i0)) {M M1 M2 : Mem} {o : Nat ⊕ Int32} {r k : Int32} {x1 : Int64} (hI : lI w s H locs oL oD cL cD x y b L xs M) (h1 : f_X11_openVault M = some (o, M1)) (hres : hRes [(3, 1)] (fun v => if v = 0 then 0 else 1) x o k x1) (h2 : f_X12_openVault M1 = some (r, M2)) (hth : M2 12 47 0 = k) (hag : k = 0 → x1 = (if r = 0 then (0 : Int64) else 1)) (kk : ∀ (H1 : Heap) (locs1 : List Loc) (ls1 : Array Slot), lv_has ls1 10 (lLoc w b oL oD i0) → lI w s H1 locs1 oL oD cL cD x1 y b L xs M2 → W p l e R s m args below meth c H1 locs1 (cells + 1) (slots + 6) Q (F0 m 2998 ls1 [])) : W p l e R s m args below meth c H locs cells slots Q (F0 m 620 ls []) := by
  refine lv_aload_n hx hb dL_law_620 rfl (lv_at hl 1 rfl) ?_
  refine lv_aload_n hx hb dL_law_621 rfl (lv_at hl 3 rfl) ?_
  refine l_help (As := [.ref (w.1 12 16), .ref oL]) (rest := []) hx hb hml hown hI (h_openVault l w hsf H.size oL cL x M o M1 h1 k x1 hres) (l_cw (n := 2) hI.1.T (tin4 (List.mem_of_getElem? (l := tables_1_4) (i := 81) rfl)) (q799 hI.1.T) (q800 hI.1.T) (q0 hI.1.T) (by decide +kernel) ⟨rfl, rfl, (Nat.le_trans (Nat.le_of_ble_eq_true rfl) hR.1), (Nat.le_trans (Nat.le_of_ble_eq_true rfl) hR.2.1)⟩) rfl hl.1 (Nat.le_of_ble_eq_true rfl) dL_law_622 ⟨Nat.le_trans (Nat.add_le_add_left (Nat.le_of_ble_eq_true rfl) _) hR.2.2.1, Nat.le_trans (Nat.add_le_add_left (Nat.le_of_ble_eq_true rfl) _) hR.2.2.2⟩ (fun H locs hI => ?_)
  refine lv_istore (lv' := [(6, .int k), (0, .ref b), (1, .ref (w.1 12 16)), (2, .ref (w.1 12 47)), (3, .ref oL), (4, .ref oD), (5, .int (Int32.ofNat i0))]) hx hb dL_law_625 hl (by decide) rfl (fun ls hl => ?_)
  refine lv_aload_n hx hb dL_law_627 rfl (lv_at hl 3 rfl) ?_
  refine l_callV (As := []) (rest := []) hx hb hml hown hI (c_X12_openVault l w H.size M1 r M2 h2) (kb_X12_openVault hI.1.T (q1583 hI.1.T) (Nat.le_trans (Nat.le_of_ble_eq_true rfl) hR.1) (Nat.le_trans (Nat.le_of_ble_eq_true rfl) hR.2.1)) (q1584 hI.1.T) (q1585 hI.1.T) (m_recv hI.1 (mokX (by decide) (by decide)) rfl rfl) rfl hl.1 (Nat.le_of_ble_eq_true rfl) dL_law_628 ⟨(Nat.le_trans (Nat.add_le_add_left (Nat.le_of_ble_eq_true rfl) _) hR.2.2.1), (Nat.le_trans (Nat.add_le_add_left (Nat.le_of_ble_eq_true rfl) _) hR.2.2.2)⟩ (fun H locs hI => ?_)
  refine lv_istore (lv' := [(7, .int r), (6, .int k), (0, .ref b), (1, .ref (w.1 12 16)), (2, .ref (w.1 12 47)), (3, .ref oL), (4, .ref oD), (5, .int (Int32.ofNat i0))]) hx hb dL_law_631 hl (by decide) rfl (fun ls hl => ?_)
  refine lv_aload_n hx hb dL_law_633 rfl (lv_at hl 4 rfl) ?_
  refine l_callV (As := []) (rest := []) hx hb hml hown hI (c_X12_thrown l w H.size M2 (M2 12 47 0) rfl) (kb_X12_thrown hI.1.T (q1496 hI.1.T) (Nat.le_trans (Nat.le_of_ble_eq_true rfl) hR.1) (Nat.le_trans (Nat.le_of_ble_eq_true rfl) hR.2.1)) (q1497 hI.1.T) (q1498 hI.1.T) (m_recv hI.1 (mokX (by decide) (by decide)) rfl rfl) rfl hl.1 (Nat.le_of_ble_eq_true rfl) dL_law_634 ⟨(Nat.le_trans (Nat.add_le_add_left (Nat.le_of_ble_eq_true rfl) _) hR.2.2.1), (Nat.le_trans (Nat.add_le_add_left (Nat.le_of_ble_eq_true rfl) _) hR.2.2.2)⟩ (fun H locs hI => ?_)
  refine lv_iload hx hb dL_law_637 (lv_at hl 1 rfl) ?_
  refine lv_icmp_eq (tgt := 644) hx hb dL_law_639 (by decide) (fun _ => ?_) (fun c2 => absurd hth c2)
  refine lv_iload hx hb dL_law_644 (lv_at hl 1 rfl) ?_
  refine lv_if_ne (tgt := 668) hx hb dL_law_646 (by decide) (fun _ => ?_) (fun c2 => ?_)
  · refine lv_goto (tgt := 2998) hx hb dL_law_668 (by decide) ?_
    exact kk H locs ls (lv_sub hl [2, 3, 4, 5, 6, 7] rfl) hI
  refine lv_aload_n hx hb dL_law_649 rfl (lv_at hl 5 rfl) ?_
  refine lv_iconst (v := 0) hx hb dL_law_650 (by decide) ?_
  refine l_lald hx hb hI dL_law_651 ?_
  refine lv_iload hx hb dL_law_652 (lv_at hl 0 rfl) ?_
  refine l_lbool hx hb dL_law_654 dL_law_657 dL_law_658 dL_law_661 ?_
  refine W.lcmp hx hb dL_law_662 ?_
  refine lv_if_eq (tgt := 668) hx hb dL_law_663 (by decide) (fun _ => ?_) (fun c3 => absurd (by rw [hag c2]; exact lg_cmp0 _) c3)
  refine lv_goto (tgt := 2998) hx hb dL_law_668 (by decide) ?_
  exact kk H locs ls (lv_sub hl [2, 3, 4, 5, 6, 7] rfl) hI
set_option maxRecDepth 100000 in
theorem l_c6 {p : Program} {l : Launch} {e : Env} {R : Room} {s : State} {m : MethodId} {args : Array Value} {below : List Frame} {meth : Method} {c : Code} {H : Heap} {locs : List Loc} {cells slots : Nat} {Q : State → Prop} {ls : Array Slot} {w : WD} {oL oD b L i0 : Nat} {xs : Nat → Int32} {cL cD : ClassId} {x : Int64} {y : UInt64} (hsf : l.stackTraces = false) (hx : p.tables.exec = Jvm.exec) (hb : c.code = cL_law) (hml : c.maxLocals = 10) (hown : s.vm.findClass "ShareVaultLaw" = some m.cls) (hR : 13 ≤ R.frames ∧ 400 ≤ R.locals ∧ cells + 2 ≤ R.cells ∧ slots + 12 ≤ R.slots) (hi : i0 + 4 < L) (hLL : L ≤ 2560) (hl : lv_has ls 10 (lLoc w b oL oD i0)) {M M1 M2 : Mem} {o : Nat ⊕ Int32} {r k : Int32} {x1 : Int64} (hI : lI w s H locs oL oD cL cD x y b L xs M) (h1 : f_X11_closeVault M = some (o, M1)) (hres : hRes [(3, 1)] (fun v => v.toInt64) x o k x1) (h2 : f_X12_closeVault M1 = some (r, M2)) (hth : M2 12 47 0 = k) (hag : k = 0 → x1 = r.toInt64) (kk : ∀ (H1 : Heap) (locs1 : List Loc) (ls1 : Array Slot), lv_has ls1 10 (lLoc w b oL oD i0) → lI w s H1 locs1 oL oD cL cD x1 y b L xs M2 → W p l e R s m args below meth c H1 locs1 (cells + 1) (slots + 6) Q (F0 m 2998 ls1 [])) : W p l e R s m args below meth c H locs cells slots Q (F0 m 671 ls []) := by
  refine lv_aload_n hx hb dL_law_671 rfl (lv_at hl 1 rfl) ?_
  refine lv_aload_n hx hb dL_law_672 rfl (lv_at hl 3 rfl) ?_
  refine l_help (As := [.ref (w.1 12 16), .ref oL]) (rest := []) hx hb hml hown hI (h_closeVault l w hsf H.size oL cL x M o M1 h1 k x1 hres) (l_cw (n := 2) hI.1.T (tin4 (List.mem_of_getElem? (l := tables_1_4) (i := 120) rfl)) (q838 hI.1.T) (q839 hI.1.T) (q0 hI.1.T) (by decide +kernel) ⟨rfl, rfl, (Nat.le_trans (Nat.le_of_ble_eq_true rfl) hR.1), (Nat.le_trans (Nat.le_of_ble_eq_true rfl) hR.2.1)⟩) rfl hl.1 (Nat.le_of_ble_eq_true rfl) dL_law_673 ⟨Nat.le_trans (Nat.add_le_add_left (Nat.le_of_ble_eq_true rfl) _) hR.2.2.1, Nat.le_trans (Nat.add_le_add_left (Nat.le_of_ble_eq_true rfl) _) hR.2.2.2⟩ (fun H locs hI => ?_)
  refine lv_istore (lv' := [(6, .int k), (0, .ref b), (1, .ref (w.1 12 16)), (2, .ref (w.1 12 47)), (3, .ref oL), (4, .ref oD), (5, .int (Int32.ofNat i0))]) hx hb dL_law_676 hl (by decide) rfl (fun ls hl => ?_)
  refine lv_aload_n hx hb dL_law_678 rfl (lv_at hl 3 rfl) ?_
  refine l_callV (As := []) (rest := []) hx hb hml hown hI (c_X12_closeVault l w H.size M1 r M2 h2) (kb_X12_closeVault hI.1.T (q1618 hI.1.T) (Nat.le_trans (Nat.le_of_ble_eq_true rfl) hR.1) (Nat.le_trans (Nat.le_of_ble_eq_true rfl) hR.2.1)) (q1619 hI.1.T) (q1620 hI.1.T) (m_recv hI.1 (mokX (by decide) (by decide)) rfl rfl) rfl hl.1 (Nat.le_of_ble_eq_true rfl) dL_law_679 ⟨(Nat.le_trans (Nat.add_le_add_left (Nat.le_of_ble_eq_true rfl) _) hR.2.2.1), (Nat.le_trans (Nat.add_le_add_left (Nat.le_of_ble_eq_true rfl) _) hR.2.2.2)⟩ (fun H locs hI => ?_)
  refine lv_istore (lv' := [(7, .int r), (6, .int k), (0, .ref b), (1, .ref (w.1 12 16)), (2, .ref (w.1 12 47)), (3, .ref oL), (4, .ref oD), (5, .int (Int32.ofNat i0))]) hx hb dL_law_682 hl (by decide) rfl (fun ls hl => ?_)
  refine lv_aload_n hx hb dL_law_684 rfl (lv_at hl 4 rfl) ?_
  refine l_callV (As := []) (rest := []) hx hb hml hown hI (c_X12_thrown l w H.size M2 (M2 12 47 0) rfl) (kb_X12_thrown hI.1.T (q1496 hI.1.T) (Nat.le_trans (Nat.le_of_ble_eq_true rfl) hR.1) (Nat.le_trans (Nat.le_of_ble_eq_true rfl) hR.2.1)) (q1497 hI.1.T) (q1498 hI.1.T) (m_recv hI.1 (mokX (by decide) (by decide)) rfl rfl) rfl hl.1 (Nat.le_of_ble_eq_true rfl) dL_law_685 ⟨(Nat.le_trans (Nat.add_le_add_left (Nat.le_of_ble_eq_true rfl) _) hR.2.2.1), (Nat.le_trans (Nat.add_le_add_left (Nat.le_of_ble_eq_true rfl) _) hR.2.2.2)⟩ (fun H locs hI => ?_)
  refine lv_iload hx hb dL_law_688 (lv_at hl 1 rfl) ?_
  refine lv_icmp_eq (tgt := 695) hx hb dL_law_690 (by decide) (fun _ => ?_) (fun c2 => absurd hth c2)
  refine lv_iload hx hb dL_law_695 (lv_at hl 1 rfl) ?_
  refine lv_if_ne (tgt := 712) hx hb dL_law_697 (by decide) (fun _ => ?_) (fun c2 => ?_)
  · refine lv_goto (tgt := 2998) hx hb dL_law_712 (by decide) ?_
    exact kk H locs ls (lv_sub hl [2, 3, 4, 5, 6, 7] rfl) hI
  refine lv_aload_n hx hb dL_law_700 rfl (lv_at hl 5 rfl) ?_
  refine lv_iconst (v := 0) hx hb dL_law_701 (by decide) ?_
  refine l_lald hx hb hI dL_law_702 ?_
  refine lv_iload hx hb dL_law_703 (lv_at hl 0 rfl) ?_
  refine lv_i2l (v := r.toInt64) hx hb dL_law_705 rfl ?_
  refine W.lcmp hx hb dL_law_706 ?_
  refine lv_if_eq (tgt := 712) hx hb dL_law_707 (by decide) (fun _ => ?_) (fun c3 => absurd (by rw [hag c2]; exact lg_cmp0 _) c3)
  refine lv_goto (tgt := 2998) hx hb dL_law_712 (by decide) ?_
  exact kk H locs ls (lv_sub hl [2, 3, 4, 5, 6, 7] rfl) hI
set_option maxRecDepth 100000 in
theorem l_c7 {p : Program} {l : Launch} {e : Env} {R : Room} {s : State} {m : MethodId} {args : Array Value} {below : List Frame} {meth : Method} {c : Code} {H : Heap} {locs : List Loc} {cells slots : Nat} {Q : State → Prop} {ls : Array Slot} {w : WD} {oL oD b L i0 : Nat} {xs : Nat → Int32} {cL cD : ClassId} {x : Int64} {y : UInt64} (hsf : l.stackTraces = false) (hx : p.tables.exec = Jvm.exec) (hb : c.code = cL_law) (hml : c.maxLocals = 10) (hown : s.vm.findClass "ShareVaultLaw" = some m.cls) (hR : 13 ≤ R.frames ∧ 400 ≤ R.locals ∧ cells + 2 ≤ R.cells ∧ slots + 12 ≤ R.slots) (hi : i0 + 4 < L) (hLL : L ≤ 2560) (hl : lv_has ls 10 (lLoc w b oL oD i0)) {M M1 M2 : Mem} {o : Nat ⊕ Int32} {r k : Int32} {x1 : Int64} (hI : lI w s H locs oL oD cL cD x y b L xs M) (h1 : f_X11_addGuard (xs (i0 + 1)) (if xs (i0 + 2) = 0 then (0 : Int32) else 1) (xs (i0 + 3)) M = some (o, M1)) (hres : hRes [(2, 1), (3, 2)] (fun v => v.toInt64) x o k x1) (h2 : f_X12_addGuard (xs (i0 + 1)) (if xs (i0 + 2) = 0 then (0 : Int32) else 1) (xs (i0 + 3)) M1 = some (r, M2)) (hth : M2 12 47 0 = k) (hag : k = 0 → x1 = r.toInt64) (kk : ∀ (H1 : Heap) (locs1 : List Loc) (ls1 : Array Slot), lv_has ls1 10 (lLoc w b oL oD i0) → lI w s H1 locs1 oL oD cL cD x1 y b L xs M2 → W p l e R s m args below meth c H1 locs1 (cells + 1) (slots + 6) Q (F0 m 2998 ls1 [])) : W p l e R s m args below meth c H locs cells slots Q (F0 m 715 ls []) := by
  refine lv_aload_n hx hb dL_law_715 rfl (lv_at hl 1 rfl) ?_
  refine l_arg (j := 1) hx hb hI hi hLL (by decide) (lv_at hl 0 rfl) (lv_at hl 5 rfl) dL_law_716 (by decide) dL_law_717 dL_law_719 dL_law_720 dL_law_721 ?_
  refine l_arg (j := 2) hx hb hI hi hLL (by decide) (lv_at hl 0 rfl) (lv_at hl 5 rfl) dL_law_722 (by decide) dL_law_723 dL_law_725 dL_law_726 dL_law_727 ?_
  refine l_bool hx hb dL_law_728 dL_law_731 dL_law_732 dL_law_735 ?_
  refine l_arg (j := 3) hx hb hI hi hLL (by decide) (lv_at hl 0 rfl) (lv_at hl 5 rfl) dL_law_736 (by decide) dL_law_737 dL_law_739 dL_law_740 dL_law_741 ?_
  refine lv_aload_n hx hb dL_law_742 rfl (lv_at hl 3 rfl) ?_
  refine l_help (As := [.ref (w.1 12 16), .int (xs (i0 + 1)), .int (if xs (i0 + 2) = 0 then (0 : Int32) else 1), .int (xs (i0 + 3)), .ref oL]) (rest := []) hx hb hml hown hI (h_addGuard l w hsf H.size oL cL x (xs (i0 + 1)) (if xs (i0 + 2) = 0 then (0 : Int32) else 1) (xs (i0 + 3)) M o M1 h1 k x1 hres) (l_cw (n := 5) hI.1.T (tin4 (List.mem_of_getElem? (l := tables_1_4) (i := 131) rfl)) (q849 hI.1.T) (q850 hI.1.T) (q0 hI.1.T) (by decide +kernel) ⟨rfl, rfl, (Nat.le_trans (Nat.le_of_ble_eq_true rfl) hR.1), (Nat.le_trans (Nat.le_of_ble_eq_true rfl) hR.2.1)⟩) rfl hl.1 (Nat.le_of_ble_eq_true rfl) dL_law_743 ⟨Nat.le_trans (Nat.add_le_add_left (Nat.le_of_ble_eq_true rfl) _) hR.2.2.1, Nat.le_trans (Nat.add_le_add_left (Nat.le_of_ble_eq_true rfl) _) hR.2.2.2⟩ (fun H locs hI => ?_)
  refine lv_istore (lv' := [(6, .int k), (0, .ref b), (1, .ref (w.1 12 16)), (2, .ref (w.1 12 47)), (3, .ref oL), (4, .ref oD), (5, .int (Int32.ofNat i0))]) hx hb dL_law_746 hl (by decide) rfl (fun ls hl => ?_)
  refine lv_aload_n hx hb dL_law_748 rfl (lv_at hl 3 rfl) ?_
  refine l_arg (j := 1) hx hb hI hi hLL (by decide) (lv_at hl 1 rfl) (lv_at hl 6 rfl) dL_law_749 (by decide) dL_law_750 dL_law_752 dL_law_753 dL_law_754 ?_
  refine l_arg (j := 2) hx hb hI hi hLL (by decide) (lv_at hl 1 rfl) (lv_at hl 6 rfl) dL_law_755 (by decide) dL_law_756 dL_law_758 dL_law_759 dL_law_760 ?_
  refine l_bool hx hb dL_law_761 dL_law_764 dL_law_765 dL_law_768 ?_
  refine l_arg (j := 3) hx hb hI hi hLL (by decide) (lv_at hl 1 rfl) (lv_at hl 6 rfl) dL_law_769 (by decide) dL_law_770 dL_law_772 dL_law_773 dL_law_774 ?_
  refine l_callV (As := [.int (xs (i0 + 1)), .int (if xs (i0 + 2) = 0 then (0 : Int32) else 1), .int (xs (i0 + 3))]) (rest := []) hx hb hml hown hI (c_X12_addGuard l w H.size (xs (i0 + 1)) (if xs (i0 + 2) = 0 then (0 : Int32) else 1) (xs (i0 + 3)) M1 r M2 h2) (kb_X12_addGuard hI.1.T (q1626 hI.1.T) (Nat.le_trans (Nat.le_of_ble_eq_true rfl) hR.1) (Nat.le_trans (Nat.le_of_ble_eq_true rfl) hR.2.1)) (q1627 hI.1.T) (q1628 hI.1.T) (m_recv hI.1 (mokX (by decide) (by decide)) rfl rfl) rfl hl.1 (Nat.le_of_ble_eq_true rfl) dL_law_775 ⟨(Nat.le_trans (Nat.add_le_add_left (Nat.le_of_ble_eq_true rfl) _) hR.2.2.1), (Nat.le_trans (Nat.add_le_add_left (Nat.le_of_ble_eq_true rfl) _) hR.2.2.2)⟩ (fun H locs hI => ?_)
  refine lv_istore (lv' := [(7, .int r), (6, .int k), (0, .ref b), (1, .ref (w.1 12 16)), (2, .ref (w.1 12 47)), (3, .ref oL), (4, .ref oD), (5, .int (Int32.ofNat i0))]) hx hb dL_law_778 hl (by decide) rfl (fun ls hl => ?_)
  refine lv_aload_n hx hb dL_law_780 rfl (lv_at hl 4 rfl) ?_
  refine l_callV (As := []) (rest := []) hx hb hml hown hI (c_X12_thrown l w H.size M2 (M2 12 47 0) rfl) (kb_X12_thrown hI.1.T (q1496 hI.1.T) (Nat.le_trans (Nat.le_of_ble_eq_true rfl) hR.1) (Nat.le_trans (Nat.le_of_ble_eq_true rfl) hR.2.1)) (q1497 hI.1.T) (q1498 hI.1.T) (m_recv hI.1 (mokX (by decide) (by decide)) rfl rfl) rfl hl.1 (Nat.le_of_ble_eq_true rfl) dL_law_781 ⟨(Nat.le_trans (Nat.add_le_add_left (Nat.le_of_ble_eq_true rfl) _) hR.2.2.1), (Nat.le_trans (Nat.add_le_add_left (Nat.le_of_ble_eq_true rfl) _) hR.2.2.2)⟩ (fun H locs hI => ?_)
  refine lv_iload hx hb dL_law_784 (lv_at hl 1 rfl) ?_
  refine lv_icmp_eq (tgt := 791) hx hb dL_law_786 (by decide) (fun _ => ?_) (fun c2 => absurd hth c2)
  refine lv_iload hx hb dL_law_791 (lv_at hl 1 rfl) ?_
  refine lv_if_ne (tgt := 808) hx hb dL_law_793 (by decide) (fun _ => ?_) (fun c2 => ?_)
  · refine lv_goto (tgt := 2998) hx hb dL_law_808 (by decide) ?_
    exact kk H locs ls (lv_sub hl [2, 3, 4, 5, 6, 7] rfl) hI
  refine lv_aload_n hx hb dL_law_796 rfl (lv_at hl 5 rfl) ?_
  refine lv_iconst (v := 0) hx hb dL_law_797 (by decide) ?_
  refine l_lald hx hb hI dL_law_798 ?_
  refine lv_iload hx hb dL_law_799 (lv_at hl 0 rfl) ?_
  refine lv_i2l (v := r.toInt64) hx hb dL_law_801 rfl ?_
  refine W.lcmp hx hb dL_law_802 ?_
  refine lv_if_eq (tgt := 808) hx hb dL_law_803 (by decide) (fun _ => ?_) (fun c3 => absurd (by rw [hag c2]; exact lg_cmp0 _) c3)
  refine lv_goto (tgt := 2998) hx hb dL_law_808 (by decide) ?_
  exact kk H locs ls (lv_sub hl [2, 3, 4, 5, 6, 7] rfl) hI
set_option maxRecDepth 100000 in
theorem l_c8 {p : Program} {l : Launch} {e : Env} {R : Room} {s : State} {m : MethodId} {args : Array Value} {below : List Frame} {meth : Method} {c : Code} {H : Heap} {locs : List Loc} {cells slots : Nat} {Q : State → Prop} {ls : Array Slot} {w : WD} {oL oD b L i0 : Nat} {xs : Nat → Int32} {cL cD : ClassId} {x : Int64} {y : UInt64} (hsf : l.stackTraces = false) (hx : p.tables.exec = Jvm.exec) (hb : c.code = cL_law) (hml : c.maxLocals = 10) (hown : s.vm.findClass "ShareVaultLaw" = some m.cls) (hR : 13 ≤ R.frames ∧ 400 ≤ R.locals ∧ cells + 2 ≤ R.cells ∧ slots + 12 ≤ R.slots) (hi : i0 + 4 < L) (hLL : L ≤ 2560) (hl : lv_has ls 10 (lLoc w b oL oD i0)) {M M1 M2 : Mem} {o : Nat ⊕ Int32} {r k : Int32} {x1 : Int64} (hI : lI w s H locs oL oD cL cD x y b L xs M) (h1 : f_X11_turnGuard (xs (i0 + 1)) M = some (o, M1)) (hres : hRes [(1, 1)] (fun v => if v = 0 then 0 else 1) x o k x1) (h2 : f_X12_turnGuard (xs (i0 + 1)) M1 = some (r, M2)) (hth : M2 12 47 0 = k) (hag : k = 0 → x1 = (if r = 0 then (0 : Int64) else 1)) (kk : ∀ (H1 : Heap) (locs1 : List Loc) (ls1 : Array Slot), lv_has ls1 10 (lLoc w b oL oD i0) → lI w s H1 locs1 oL oD cL cD x1 y b L xs M2 → W p l e R s m args below meth c H1 locs1 (cells + 1) (slots + 6) Q (F0 m 2998 ls1 [])) : W p l e R s m args below meth c H locs cells slots Q (F0 m 811 ls []) := by
  refine lv_aload_n hx hb dL_law_811 rfl (lv_at hl 1 rfl) ?_
  refine l_arg (j := 1) hx hb hI hi hLL (by decide) (lv_at hl 0 rfl) (lv_at hl 5 rfl) dL_law_812 (by decide) dL_law_813 dL_law_815 dL_law_816 dL_law_817 ?_
  refine lv_aload_n hx hb dL_law_818 rfl (lv_at hl 3 rfl) ?_
  refine l_help (As := [.ref (w.1 12 16), .int (xs (i0 + 1)), .ref oL]) (rest := []) hx hb hml hown hI (h_turnGuard l w hsf H.size oL cL x (xs (i0 + 1)) M o M1 h1 k x1 hres) (l_cw (n := 3) hI.1.T (tin4 (List.mem_of_getElem? (l := tables_1_4) (i := 149) rfl)) (q867 hI.1.T) (q868 hI.1.T) (q0 hI.1.T) (by decide +kernel) ⟨rfl, rfl, (Nat.le_trans (Nat.le_of_ble_eq_true rfl) hR.1), (Nat.le_trans (Nat.le_of_ble_eq_true rfl) hR.2.1)⟩) rfl hl.1 (Nat.le_of_ble_eq_true rfl) dL_law_819 ⟨Nat.le_trans (Nat.add_le_add_left (Nat.le_of_ble_eq_true rfl) _) hR.2.2.1, Nat.le_trans (Nat.add_le_add_left (Nat.le_of_ble_eq_true rfl) _) hR.2.2.2⟩ (fun H locs hI => ?_)
  refine lv_istore (lv' := [(6, .int k), (0, .ref b), (1, .ref (w.1 12 16)), (2, .ref (w.1 12 47)), (3, .ref oL), (4, .ref oD), (5, .int (Int32.ofNat i0))]) hx hb dL_law_822 hl (by decide) rfl (fun ls hl => ?_)
  refine lv_aload_n hx hb dL_law_824 rfl (lv_at hl 3 rfl) ?_
  refine l_arg (j := 1) hx hb hI hi hLL (by decide) (lv_at hl 1 rfl) (lv_at hl 6 rfl) dL_law_825 (by decide) dL_law_826 dL_law_828 dL_law_829 dL_law_830 ?_
  refine l_callV (As := [.int (xs (i0 + 1))]) (rest := []) hx hb hml hown hI (c_X12_turnGuard l w H.size (xs (i0 + 1)) M1 r M2 h2) (kb_X12_turnGuard hI.1.T (q1637 hI.1.T) (Nat.le_trans (Nat.le_of_ble_eq_true rfl) hR.1) (Nat.le_trans (Nat.le_of_ble_eq_true rfl) hR.2.1)) (q1638 hI.1.T) (q1639 hI.1.T) (m_recv hI.1 (mokX (by decide) (by decide)) rfl rfl) rfl hl.1 (Nat.le_of_ble_eq_true rfl) dL_law_831 ⟨(Nat.le_trans (Nat.add_le_add_left (Nat.le_of_ble_eq_true rfl) _) hR.2.2.1), (Nat.le_trans (Nat.add_le_add_left (Nat.le_of_ble_eq_true rfl) _) hR.2.2.2)⟩ (fun H locs hI => ?_)
  refine lv_istore (lv' := [(7, .int r), (6, .int k), (0, .ref b), (1, .ref (w.1 12 16)), (2, .ref (w.1 12 47)), (3, .ref oL), (4, .ref oD), (5, .int (Int32.ofNat i0))]) hx hb dL_law_834 hl (by decide) rfl (fun ls hl => ?_)
  refine lv_aload_n hx hb dL_law_836 rfl (lv_at hl 4 rfl) ?_
  refine l_callV (As := []) (rest := []) hx hb hml hown hI (c_X12_thrown l w H.size M2 (M2 12 47 0) rfl) (kb_X12_thrown hI.1.T (q1496 hI.1.T) (Nat.le_trans (Nat.le_of_ble_eq_true rfl) hR.1) (Nat.le_trans (Nat.le_of_ble_eq_true rfl) hR.2.1)) (q1497 hI.1.T) (q1498 hI.1.T) (m_recv hI.1 (mokX (by decide) (by decide)) rfl rfl) rfl hl.1 (Nat.le_of_ble_eq_true rfl) dL_law_837 ⟨(Nat.le_trans (Nat.add_le_add_left (Nat.le_of_ble_eq_true rfl) _) hR.2.2.1), (Nat.le_trans (Nat.add_le_add_left (Nat.le_of_ble_eq_true rfl) _) hR.2.2.2)⟩ (fun H locs hI => ?_)
  refine lv_iload hx hb dL_law_840 (lv_at hl 1 rfl) ?_
  refine lv_icmp_eq (tgt := 847) hx hb dL_law_842 (by decide) (fun _ => ?_) (fun c2 => absurd hth c2)
  refine lv_iload hx hb dL_law_847 (lv_at hl 1 rfl) ?_
  refine lv_if_ne (tgt := 871) hx hb dL_law_849 (by decide) (fun _ => ?_) (fun c2 => ?_)
  · refine lv_goto (tgt := 2998) hx hb dL_law_871 (by decide) ?_
    exact kk H locs ls (lv_sub hl [2, 3, 4, 5, 6, 7] rfl) hI
  refine lv_aload_n hx hb dL_law_852 rfl (lv_at hl 5 rfl) ?_
  refine lv_iconst (v := 0) hx hb dL_law_853 (by decide) ?_
  refine l_lald hx hb hI dL_law_854 ?_
  refine lv_iload hx hb dL_law_855 (lv_at hl 0 rfl) ?_
  refine l_lbool hx hb dL_law_857 dL_law_860 dL_law_861 dL_law_864 ?_
  refine W.lcmp hx hb dL_law_865 ?_
  refine lv_if_eq (tgt := 871) hx hb dL_law_866 (by decide) (fun _ => ?_) (fun c3 => absurd (by rw [hag c2]; exact lg_cmp0 _) c3)
  refine lv_goto (tgt := 2998) hx hb dL_law_871 (by decide) ?_
  exact kk H locs ls (lv_sub hl [2, 3, 4, 5, 6, 7] rfl) hI
set_option maxRecDepth 100000 in
theorem l_c9 {p : Program} {l : Launch} {e : Env} {R : Room} {s : State} {m : MethodId} {args : Array Value} {below : List Frame} {meth : Method} {c : Code} {H : Heap} {locs : List Loc} {cells slots : Nat} {Q : State → Prop} {ls : Array Slot} {w : WD} {oL oD b L i0 : Nat} {xs : Nat → Int32} {cL cD : ClassId} {x : Int64} {y : UInt64} (hsf : l.stackTraces = false) (hx : p.tables.exec = Jvm.exec) (hb : c.code = cL_law) (hml : c.maxLocals = 10) (hown : s.vm.findClass "ShareVaultLaw" = some m.cls) (hR : 13 ≤ R.frames ∧ 400 ≤ R.locals ∧ cells + 2 ≤ R.cells ∧ slots + 12 ≤ R.slots) (hi : i0 + 4 < L) (hLL : L ≤ 2560) (hl : lv_has ls 10 (lLoc w b oL oD i0)) {M M1 M2 : Mem} {o : Nat ⊕ Int32} {r k : Int32} {x1 : Int64} (hI : lI w s H locs oL oD cL cD x y b L xs M) (h1 : f_X11_hum (xs (i0 + 1)) (xs (i0 + 2)) M = some (o, M1)) (hres : hRes [(2, 1)] (fun v => v.toInt64) x o k x1) (h2 : f_X12_hum (xs (i0 + 1)) (xs (i0 + 2)) M1 = some (r, M2)) (hth : M2 12 47 0 = k) (hag : k = 0 → x1 = r.toInt64) (kk : ∀ (H1 : Heap) (locs1 : List Loc) (ls1 : Array Slot), lv_has ls1 10 (lLoc w b oL oD i0) → lI w s H1 locs1 oL oD cL cD x1 y b L xs M2 → W p l e R s m args below meth c H1 locs1 (cells + 1) (slots + 6) Q (F0 m 2998 ls1 [])) : W p l e R s m args below meth c H locs cells slots Q (F0 m 874 ls []) := by
  refine lv_aload_n hx hb dL_law_874 rfl (lv_at hl 1 rfl) ?_
  refine l_arg (j := 1) hx hb hI hi hLL (by decide) (lv_at hl 0 rfl) (lv_at hl 5 rfl) dL_law_875 (by decide) dL_law_876 dL_law_878 dL_law_879 dL_law_880 ?_
  refine l_arg (j := 2) hx hb hI hi hLL (by decide) (lv_at hl 0 rfl) (lv_at hl 5 rfl) dL_law_881 (by decide) dL_law_882 dL_law_884 dL_law_885 dL_law_886 ?_
  refine lv_aload_n hx hb dL_law_887 rfl (lv_at hl 3 rfl) ?_
  refine l_help (As := [.ref (w.1 12 16), .int (xs (i0 + 1)), .int (xs (i0 + 2)), .ref oL]) (rest := []) hx hb hml hown hI (h_hum l w hsf H.size oL cL x (xs (i0 + 1)) (xs (i0 + 2)) M o M1 h1 k x1 hres) (l_cw (n := 4) hI.1.T (tin4 (List.mem_of_getElem? (l := tables_1_4) (i := 164) rfl)) (q882 hI.1.T) (q883 hI.1.T) (q0 hI.1.T) (by decide +kernel) ⟨rfl, rfl, (Nat.le_trans (Nat.le_of_ble_eq_true rfl) hR.1), (Nat.le_trans (Nat.le_of_ble_eq_true rfl) hR.2.1)⟩) rfl hl.1 (Nat.le_of_ble_eq_true rfl) dL_law_888 ⟨Nat.le_trans (Nat.add_le_add_left (Nat.le_of_ble_eq_true rfl) _) hR.2.2.1, Nat.le_trans (Nat.add_le_add_left (Nat.le_of_ble_eq_true rfl) _) hR.2.2.2⟩ (fun H locs hI => ?_)
  refine lv_istore (lv' := [(6, .int k), (0, .ref b), (1, .ref (w.1 12 16)), (2, .ref (w.1 12 47)), (3, .ref oL), (4, .ref oD), (5, .int (Int32.ofNat i0))]) hx hb dL_law_891 hl (by decide) rfl (fun ls hl => ?_)
  refine lv_aload_n hx hb dL_law_893 rfl (lv_at hl 3 rfl) ?_
  refine l_arg (j := 1) hx hb hI hi hLL (by decide) (lv_at hl 1 rfl) (lv_at hl 6 rfl) dL_law_894 (by decide) dL_law_895 dL_law_897 dL_law_898 dL_law_899 ?_
  refine l_arg (j := 2) hx hb hI hi hLL (by decide) (lv_at hl 1 rfl) (lv_at hl 6 rfl) dL_law_900 (by decide) dL_law_901 dL_law_903 dL_law_904 dL_law_905 ?_
  refine l_callV (As := [.int (xs (i0 + 1)), .int (xs (i0 + 2))]) (rest := []) hx hb hml hown hI (c_X12_hum l w H.size (xs (i0 + 1)) (xs (i0 + 2)) M1 r M2 h2) (kb_X12_hum hI.1.T (q1649 hI.1.T) (Nat.le_trans (Nat.le_of_ble_eq_true rfl) hR.1) (Nat.le_trans (Nat.le_of_ble_eq_true rfl) hR.2.1)) (q1650 hI.1.T) (q1651 hI.1.T) (m_recv hI.1 (mokX (by decide) (by decide)) rfl rfl) rfl hl.1 (Nat.le_of_ble_eq_true rfl) dL_law_906 ⟨(Nat.le_trans (Nat.add_le_add_left (Nat.le_of_ble_eq_true rfl) _) hR.2.2.1), (Nat.le_trans (Nat.add_le_add_left (Nat.le_of_ble_eq_true rfl) _) hR.2.2.2)⟩ (fun H locs hI => ?_)
  refine lv_istore (lv' := [(7, .int r), (6, .int k), (0, .ref b), (1, .ref (w.1 12 16)), (2, .ref (w.1 12 47)), (3, .ref oL), (4, .ref oD), (5, .int (Int32.ofNat i0))]) hx hb dL_law_909 hl (by decide) rfl (fun ls hl => ?_)
  refine lv_aload_n hx hb dL_law_911 rfl (lv_at hl 4 rfl) ?_
  refine l_callV (As := []) (rest := []) hx hb hml hown hI (c_X12_thrown l w H.size M2 (M2 12 47 0) rfl) (kb_X12_thrown hI.1.T (q1496 hI.1.T) (Nat.le_trans (Nat.le_of_ble_eq_true rfl) hR.1) (Nat.le_trans (Nat.le_of_ble_eq_true rfl) hR.2.1)) (q1497 hI.1.T) (q1498 hI.1.T) (m_recv hI.1 (mokX (by decide) (by decide)) rfl rfl) rfl hl.1 (Nat.le_of_ble_eq_true rfl) dL_law_912 ⟨(Nat.le_trans (Nat.add_le_add_left (Nat.le_of_ble_eq_true rfl) _) hR.2.2.1), (Nat.le_trans (Nat.add_le_add_left (Nat.le_of_ble_eq_true rfl) _) hR.2.2.2)⟩ (fun H locs hI => ?_)
  refine lv_iload hx hb dL_law_915 (lv_at hl 1 rfl) ?_
  refine lv_icmp_eq (tgt := 922) hx hb dL_law_917 (by decide) (fun _ => ?_) (fun c2 => absurd hth c2)
  refine lv_iload hx hb dL_law_922 (lv_at hl 1 rfl) ?_
  refine lv_if_ne (tgt := 939) hx hb dL_law_924 (by decide) (fun _ => ?_) (fun c2 => ?_)
  · refine lv_goto (tgt := 2998) hx hb dL_law_939 (by decide) ?_
    exact kk H locs ls (lv_sub hl [2, 3, 4, 5, 6, 7] rfl) hI
  refine lv_aload_n hx hb dL_law_927 rfl (lv_at hl 5 rfl) ?_
  refine lv_iconst (v := 0) hx hb dL_law_928 (by decide) ?_
  refine l_lald hx hb hI dL_law_929 ?_
  refine lv_iload hx hb dL_law_930 (lv_at hl 0 rfl) ?_
  refine lv_i2l (v := r.toInt64) hx hb dL_law_932 rfl ?_
  refine W.lcmp hx hb dL_law_933 ?_
  refine lv_if_eq (tgt := 939) hx hb dL_law_934 (by decide) (fun _ => ?_) (fun c3 => absurd (by rw [hag c2]; exact lg_cmp0 _) c3)
  refine lv_goto (tgt := 2998) hx hb dL_law_939 (by decide) ?_
  exact kk H locs ls (lv_sub hl [2, 3, 4, 5, 6, 7] rfl) hI
set_option maxRecDepth 100000 in
theorem l_c10 {p : Program} {l : Launch} {e : Env} {R : Room} {s : State} {m : MethodId} {args : Array Value} {below : List Frame} {meth : Method} {c : Code} {H : Heap} {locs : List Loc} {cells slots : Nat} {Q : State → Prop} {ls : Array Slot} {w : WD} {oL oD b L i0 : Nat} {xs : Nat → Int32} {cL cD : ClassId} {x : Int64} {y : UInt64} (hsf : l.stackTraces = false) (hx : p.tables.exec = Jvm.exec) (hb : c.code = cL_law) (hml : c.maxLocals = 10) (hown : s.vm.findClass "ShareVaultLaw" = some m.cls) (hR : 13 ≤ R.frames ∧ 400 ≤ R.locals ∧ cells + 2 ≤ R.cells ∧ slots + 12 ≤ R.slots) (hi : i0 + 4 < L) (hLL : L ≤ 2560) (hl : lv_has ls 10 (lLoc w b oL oD i0)) {M M1 M2 : Mem} {o : Nat ⊕ Int32} {r k : Int32} {x1 : Int64} (hI : lI w s H locs oL oD cL cD x y b L xs M) (h1 : f_X11_passHours (xs (i0 + 1)) M = some (o, M1)) (hres : hRes [(2, 1)] (fun v => v.toInt64) x o k x1) (h2 : f_X12_passHours (xs (i0 + 1)) M1 = some (r, M2)) (hth : M2 12 47 0 = k) (hag : k = 0 → x1 = r.toInt64) (kk : ∀ (H1 : Heap) (locs1 : List Loc) (ls1 : Array Slot), lv_has ls1 10 (lLoc w b oL oD i0) → lI w s H1 locs1 oL oD cL cD x1 y b L xs M2 → W p l e R s m args below meth c H1 locs1 (cells + 1) (slots + 6) Q (F0 m 2998 ls1 [])) : W p l e R s m args below meth c H locs cells slots Q (F0 m 942 ls []) := by
  refine lv_aload_n hx hb dL_law_942 rfl (lv_at hl 1 rfl) ?_
  refine l_arg (j := 1) hx hb hI hi hLL (by decide) (lv_at hl 0 rfl) (lv_at hl 5 rfl) dL_law_943 (by decide) dL_law_944 dL_law_946 dL_law_947 dL_law_948 ?_
  refine lv_aload_n hx hb dL_law_949 rfl (lv_at hl 3 rfl) ?_
  refine l_help (As := [.ref (w.1 12 16), .int (xs (i0 + 1)), .ref oL]) (rest := []) hx hb hml hown hI (h_passHours l w hsf H.size oL cL x (xs (i0 + 1)) M o M1 h1 k x1 hres) (l_cw (n := 3) hI.1.T (tin4 (List.mem_of_getElem? (l := tables_1_4) (i := 176) rfl)) (q894 hI.1.T) (q895 hI.1.T) (q0 hI.1.T) (by decide +kernel) ⟨rfl, rfl, (Nat.le_trans (Nat.le_of_ble_eq_true rfl) hR.1), (Nat.le_trans (Nat.le_of_ble_eq_true rfl) hR.2.1)⟩) rfl hl.1 (Nat.le_of_ble_eq_true rfl) dL_law_950 ⟨Nat.le_trans (Nat.add_le_add_left (Nat.le_of_ble_eq_true rfl) _) hR.2.2.1, Nat.le_trans (Nat.add_le_add_left (Nat.le_of_ble_eq_true rfl) _) hR.2.2.2⟩ (fun H locs hI => ?_)
  refine lv_istore (lv' := [(6, .int k), (0, .ref b), (1, .ref (w.1 12 16)), (2, .ref (w.1 12 47)), (3, .ref oL), (4, .ref oD), (5, .int (Int32.ofNat i0))]) hx hb dL_law_953 hl (by decide) rfl (fun ls hl => ?_)
  refine lv_aload_n hx hb dL_law_955 rfl (lv_at hl 3 rfl) ?_
  refine l_arg (j := 1) hx hb hI hi hLL (by decide) (lv_at hl 1 rfl) (lv_at hl 6 rfl) dL_law_956 (by decide) dL_law_957 dL_law_959 dL_law_960 dL_law_961 ?_
  refine l_callV (As := [.int (xs (i0 + 1))]) (rest := []) hx hb hml hown hI (c_X12_passHours l w H.size (xs (i0 + 1)) M1 r M2 h2) (kb_X12_passHours hI.1.T (q1657 hI.1.T) (Nat.le_trans (Nat.le_of_ble_eq_true rfl) hR.1) (Nat.le_trans (Nat.le_of_ble_eq_true rfl) hR.2.1)) (q1658 hI.1.T) (q1659 hI.1.T) (m_recv hI.1 (mokX (by decide) (by decide)) rfl rfl) rfl hl.1 (Nat.le_of_ble_eq_true rfl) dL_law_962 ⟨(Nat.le_trans (Nat.add_le_add_left (Nat.le_of_ble_eq_true rfl) _) hR.2.2.1), (Nat.le_trans (Nat.add_le_add_left (Nat.le_of_ble_eq_true rfl) _) hR.2.2.2)⟩ (fun H locs hI => ?_)
  refine lv_istore (lv' := [(7, .int r), (6, .int k), (0, .ref b), (1, .ref (w.1 12 16)), (2, .ref (w.1 12 47)), (3, .ref oL), (4, .ref oD), (5, .int (Int32.ofNat i0))]) hx hb dL_law_965 hl (by decide) rfl (fun ls hl => ?_)
  refine lv_aload_n hx hb dL_law_967 rfl (lv_at hl 4 rfl) ?_
  refine l_callV (As := []) (rest := []) hx hb hml hown hI (c_X12_thrown l w H.size M2 (M2 12 47 0) rfl) (kb_X12_thrown hI.1.T (q1496 hI.1.T) (Nat.le_trans (Nat.le_of_ble_eq_true rfl) hR.1) (Nat.le_trans (Nat.le_of_ble_eq_true rfl) hR.2.1)) (q1497 hI.1.T) (q1498 hI.1.T) (m_recv hI.1 (mokX (by decide) (by decide)) rfl rfl) rfl hl.1 (Nat.le_of_ble_eq_true rfl) dL_law_968 ⟨(Nat.le_trans (Nat.add_le_add_left (Nat.le_of_ble_eq_true rfl) _) hR.2.2.1), (Nat.le_trans (Nat.add_le_add_left (Nat.le_of_ble_eq_true rfl) _) hR.2.2.2)⟩ (fun H locs hI => ?_)
  refine lv_iload hx hb dL_law_971 (lv_at hl 1 rfl) ?_
  refine lv_icmp_eq (tgt := 978) hx hb dL_law_973 (by decide) (fun _ => ?_) (fun c2 => absurd hth c2)
  refine lv_iload hx hb dL_law_978 (lv_at hl 1 rfl) ?_
  refine lv_if_ne (tgt := 995) hx hb dL_law_980 (by decide) (fun _ => ?_) (fun c2 => ?_)
  · refine lv_goto (tgt := 2998) hx hb dL_law_995 (by decide) ?_
    exact kk H locs ls (lv_sub hl [2, 3, 4, 5, 6, 7] rfl) hI
  refine lv_aload_n hx hb dL_law_983 rfl (lv_at hl 5 rfl) ?_
  refine lv_iconst (v := 0) hx hb dL_law_984 (by decide) ?_
  refine l_lald hx hb hI dL_law_985 ?_
  refine lv_iload hx hb dL_law_986 (lv_at hl 0 rfl) ?_
  refine lv_i2l (v := r.toInt64) hx hb dL_law_988 rfl ?_
  refine W.lcmp hx hb dL_law_989 ?_
  refine lv_if_eq (tgt := 995) hx hb dL_law_990 (by decide) (fun _ => ?_) (fun c3 => absurd (by rw [hag c2]; exact lg_cmp0 _) c3)
  refine lv_goto (tgt := 2998) hx hb dL_law_995 (by decide) ?_
  exact kk H locs ls (lv_sub hl [2, 3, 4, 5, 6, 7] rfl) hI
set_option maxRecDepth 100000 in
theorem l_c11 {p : Program} {l : Launch} {e : Env} {R : Room} {s : State} {m : MethodId} {args : Array Value} {below : List Frame} {meth : Method} {c : Code} {H : Heap} {locs : List Loc} {cells slots : Nat} {Q : State → Prop} {ls : Array Slot} {w : WD} {oL oD b L i0 : Nat} {xs : Nat → Int32} {cL cD : ClassId} {x : Int64} {y : UInt64} (hsf : l.stackTraces = false) (hx : p.tables.exec = Jvm.exec) (hb : c.code = cL_law) (hml : c.maxLocals = 10) (hown : s.vm.findClass "ShareVaultLaw" = some m.cls) (hR : 13 ≤ R.frames ∧ 400 ≤ R.locals ∧ cells + 2 ≤ R.cells ∧ slots + 12 ≤ R.slots) (hi : i0 + 4 < L) (hLL : L ≤ 2560) (hl : lv_has ls 10 (lLoc w b oL oD i0)) {M M2 : Mem} {r : Int32} (hI : lI w s H locs oL oD cL cD x y b L xs M) (h1 : f_X11_hour M = some r) (h2 : f_X12_hour M = some (r, M2)) (kk : ∀ (H1 : Heap) (locs1 : List Loc), lI w s H1 locs1 oL oD cL cD x y b L xs M2 → W p l e R s m args below meth c H1 locs1 cells slots Q (F0 m 2998 ls [])) : W p l e R s m args below meth c H locs cells slots Q (F0 m 998 ls []) := by
  refine lv_aload_n hx hb dL_law_998 rfl (lv_at hl 1 rfl) ?_
  refine l_callV (As := []) (rest := []) hx hb hml hown hI (c_X11_hour l w H.size M r h1) (kb_X11_hour hI.1.T (q330 hI.1.T) (Nat.le_trans (Nat.le_of_ble_eq_true rfl) hR.1) (Nat.le_trans (Nat.le_of_ble_eq_true rfl) hR.2.1)) (q331 hI.1.T) (q332 hI.1.T) (m_recv hI.1 (mokX (by decide) (by decide)) rfl rfl) rfl hl.1 (Nat.le_of_ble_eq_true rfl) dL_law_999 ⟨(Nat.le_trans (Nat.le_add_right _ _) hR.2.2.1), (Nat.le_trans (Nat.le_add_right _ _) hR.2.2.2)⟩ (fun H locs hI => ?_)
  refine lv_aload_n hx hb dL_law_1002 rfl (lv_at hl 2 rfl) ?_
  refine l_callV (As := []) (rest := [.int r]) hx hb hml hown hI (c_X12_hour l w H.size M r M2 h2) (kb_X12_hour hI.1.T (q1673 hI.1.T) (Nat.le_trans (Nat.le_of_ble_eq_true rfl) hR.1) (Nat.le_trans (Nat.le_of_ble_eq_true rfl) hR.2.1)) (q1674 hI.1.T) (q1675 hI.1.T) (m_recv hI.1 (mokX (by decide) (by decide)) rfl rfl) rfl hl.1 (Nat.le_of_ble_eq_true rfl) dL_law_1003 ⟨(Nat.le_trans (Nat.le_add_right _ _) hR.2.2.1), (Nat.le_trans (Nat.le_add_right _ _) hR.2.2.2)⟩ (fun H locs hI => ?_)
  refine lv_icmp_eq (tgt := 2998) hx hb dL_law_1006 (by decide) (fun _ => ?_) (fun c2 => absurd rfl c2)
  exact kk H locs hI
set_option maxRecDepth 100000 in
theorem l_c12 {p : Program} {l : Launch} {e : Env} {R : Room} {s : State} {m : MethodId} {args : Array Value} {below : List Frame} {meth : Method} {c : Code} {H : Heap} {locs : List Loc} {cells slots : Nat} {Q : State → Prop} {ls : Array Slot} {w : WD} {oL oD b L i0 : Nat} {xs : Nat → Int32} {cL cD : ClassId} {x : Int64} {y : UInt64} (hsf : l.stackTraces = false) (hx : p.tables.exec = Jvm.exec) (hb : c.code = cL_law) (hml : c.maxLocals = 10) (hown : s.vm.findClass "ShareVaultLaw" = some m.cls) (hR : 13 ≤ R.frames ∧ 400 ≤ R.locals ∧ cells + 2 ≤ R.cells ∧ slots + 12 ≤ R.slots) (hi : i0 + 4 < L) (hLL : L ≤ 2560) (hl : lv_has ls 10 (lLoc w b oL oD i0)) {M M2 : Mem} {r : Int32} (hI : lI w s H locs oL oD cL cD x y b L xs M) (h1 : f_X11_holderCount M = some r) (h2 : f_X12_holderCount M = some (r, M2)) (kk : ∀ (H1 : Heap) (locs1 : List Loc), lI w s H1 locs1 oL oD cL cD x y b L xs M2 → W p l e R s m args below meth c H1 locs1 cells slots Q (F0 m 2998 ls [])) : W p l e R s m args below meth c H locs cells slots Q (F0 m 1011 ls []) := by
  refine lv_aload_n hx hb dL_law_1011 rfl (lv_at hl 1 rfl) ?_
  refine l_callV (As := []) (rest := []) hx hb hml hown hI (c_X11_holderCount l w H.size M r h1) (kb_X11_holderCount hI.1.T (q334 hI.1.T) (Nat.le_trans (Nat.le_of_ble_eq_true rfl) hR.1) (Nat.le_trans (Nat.le_of_ble_eq_true rfl) hR.2.1)) (q335 hI.1.T) (q336 hI.1.T) (m_recv hI.1 (mokX (by decide) (by decide)) rfl rfl) rfl hl.1 (Nat.le_of_ble_eq_true rfl) dL_law_1012 ⟨(Nat.le_trans (Nat.le_add_right _ _) hR.2.2.1), (Nat.le_trans (Nat.le_add_right _ _) hR.2.2.2)⟩ (fun H locs hI => ?_)
  refine lv_aload_n hx hb dL_law_1015 rfl (lv_at hl 2 rfl) ?_
  refine l_callV (As := []) (rest := [.int r]) hx hb hml hown hI (c_X12_holderCount l w H.size M r M2 h2) (kb_X12_holderCount hI.1.T (q1677 hI.1.T) (Nat.le_trans (Nat.le_of_ble_eq_true rfl) hR.1) (Nat.le_trans (Nat.le_of_ble_eq_true rfl) hR.2.1)) (q1678 hI.1.T) (q1679 hI.1.T) (m_recv hI.1 (mokX (by decide) (by decide)) rfl rfl) rfl hl.1 (Nat.le_of_ble_eq_true rfl) dL_law_1016 ⟨(Nat.le_trans (Nat.le_add_right _ _) hR.2.2.1), (Nat.le_trans (Nat.le_add_right _ _) hR.2.2.2)⟩ (fun H locs hI => ?_)
  refine lv_icmp_eq (tgt := 2998) hx hb dL_law_1019 (by decide) (fun _ => ?_) (fun c2 => absurd rfl c2)
  exact kk H locs hI
set_option maxRecDepth 100000 in
theorem l_c13 {p : Program} {l : Launch} {e : Env} {R : Room} {s : State} {m : MethodId} {args : Array Value} {below : List Frame} {meth : Method} {c : Code} {H : Heap} {locs : List Loc} {cells slots : Nat} {Q : State → Prop} {ls : Array Slot} {w : WD} {oL oD b L i0 : Nat} {xs : Nat → Int32} {cL cD : ClassId} {x : Int64} {y : UInt64} (hsf : l.stackTraces = false) (hx : p.tables.exec = Jvm.exec) (hb : c.code = cL_law) (hml : c.maxLocals = 10) (hown : s.vm.findClass "ShareVaultLaw" = some m.cls) (hR : 13 ≤ R.frames ∧ 400 ≤ R.locals ∧ cells + 2 ≤ R.cells ∧ slots + 12 ≤ R.slots) (hi : i0 + 4 < L) (hLL : L ≤ 2560) (hl : lv_has ls 10 (lLoc w b oL oD i0)) {M M2 : Mem} {r : Int32} (hI : lI w s H locs oL oD cL cD x y b L xs M) (h1 : f_X11_isSealed M = some r) (h2 : f_X12_isSealed M = some (r, M2)) (kk : ∀ (H1 : Heap) (locs1 : List Loc), lI w s H1 locs1 oL oD cL cD x y b L xs M2 → W p l e R s m args below meth c H1 locs1 cells slots Q (F0 m 2998 ls [])) : W p l e R s m args below meth c H locs cells slots Q (F0 m 1024 ls []) := by
  refine lv_aload_n hx hb dL_law_1024 rfl (lv_at hl 1 rfl) ?_
  refine l_callV (As := []) (rest := []) hx hb hml hown hI (c_X11_isSealed l w H.size M r h1) (kb_X11_isSealed hI.1.T (q338 hI.1.T) (Nat.le_trans (Nat.le_of_ble_eq_true rfl) hR.1) (Nat.le_trans (Nat.le_of_ble_eq_true rfl) hR.2.1)) (q339 hI.1.T) (q340 hI.1.T) (m_recv hI.1 (mokX (by decide) (by decide)) rfl rfl) rfl hl.1 (Nat.le_of_ble_eq_true rfl) dL_law_1025 ⟨(Nat.le_trans (Nat.le_add_right _ _) hR.2.2.1), (Nat.le_trans (Nat.le_add_right _ _) hR.2.2.2)⟩ (fun H locs hI => ?_)
  refine lv_aload_n hx hb dL_law_1028 rfl (lv_at hl 2 rfl) ?_
  refine l_callV (As := []) (rest := [.int r]) hx hb hml hown hI (c_X12_isSealed l w H.size M r M2 h2) (kb_X12_isSealed hI.1.T (q1681 hI.1.T) (Nat.le_trans (Nat.le_of_ble_eq_true rfl) hR.1) (Nat.le_trans (Nat.le_of_ble_eq_true rfl) hR.2.1)) (q1682 hI.1.T) (q1683 hI.1.T) (m_recv hI.1 (mokX (by decide) (by decide)) rfl rfl) rfl hl.1 (Nat.le_of_ble_eq_true rfl) dL_law_1029 ⟨(Nat.le_trans (Nat.le_add_right _ _) hR.2.2.1), (Nat.le_trans (Nat.le_add_right _ _) hR.2.2.2)⟩ (fun H locs hI => ?_)
  refine lv_icmp_eq (tgt := 2998) hx hb dL_law_1032 (by decide) (fun _ => ?_) (fun c2 => absurd rfl c2)
  exact kk H locs hI
set_option maxRecDepth 100000 in
theorem l_c14 {p : Program} {l : Launch} {e : Env} {R : Room} {s : State} {m : MethodId} {args : Array Value} {below : List Frame} {meth : Method} {c : Code} {H : Heap} {locs : List Loc} {cells slots : Nat} {Q : State → Prop} {ls : Array Slot} {w : WD} {oL oD b L i0 : Nat} {xs : Nat → Int32} {cL cD : ClassId} {x : Int64} {y : UInt64} (hsf : l.stackTraces = false) (hx : p.tables.exec = Jvm.exec) (hb : c.code = cL_law) (hml : c.maxLocals = 10) (hown : s.vm.findClass "ShareVaultLaw" = some m.cls) (hR : 13 ≤ R.frames ∧ 400 ≤ R.locals ∧ cells + 2 ≤ R.cells ∧ slots + 12 ≤ R.slots) (hi : i0 + 4 < L) (hLL : L ≤ 2560) (hl : lv_has ls 10 (lLoc w b oL oD i0)) {M M2 : Mem} {o : Nat ⊕ Int32} {r k : Int32} {x1 : Int64} (hI : lI w s H locs oL oD cL cD x y b L xs M) (h1 : f_X11_threshold M = some o) (hres : hRes [(4, 1)] (fun v => v.toInt64) x o k x1) (h2 : f_X12_threshold M = some (r, M2)) (hth : M2 12 47 0 = k) (hag : k = 0 → x1 = r.toInt64) (kk : ∀ (H1 : Heap) (locs1 : List Loc) (ls1 : Array Slot), lv_has ls1 10 (lLoc w b oL oD i0) → lI w s H1 locs1 oL oD cL cD x1 y b L xs M2 → W p l e R s m args below meth c H1 locs1 (cells + 1) (slots + 6) Q (F0 m 2998 ls1 [])) : W p l e R s m args below meth c H locs cells slots Q (F0 m 1037 ls []) := by
  refine lv_aload_n hx hb dL_law_1037 rfl (lv_at hl 1 rfl) ?_
  refine lv_aload_n hx hb dL_law_1038 rfl (lv_at hl 3 rfl) ?_
  refine l_help (As := [.ref (w.1 12 16), .ref oL]) (rest := []) hx hb hml hown hI (h_threshold l w hsf H.size oL cL x M o h1 k x1 hres) (l_cw (n := 2) hI.1.T (tin4 (List.mem_of_getElem? (l := tables_1_4) (i := 205) rfl)) (q923 hI.1.T) (q924 hI.1.T) (q0 hI.1.T) (by decide +kernel) ⟨rfl, rfl, (Nat.le_trans (Nat.le_of_ble_eq_true rfl) hR.1), (Nat.le_trans (Nat.le_of_ble_eq_true rfl) hR.2.1)⟩) rfl hl.1 (Nat.le_of_ble_eq_true rfl) dL_law_1039 ⟨Nat.le_trans (Nat.add_le_add_left (Nat.le_of_ble_eq_true rfl) _) hR.2.2.1, Nat.le_trans (Nat.add_le_add_left (Nat.le_of_ble_eq_true rfl) _) hR.2.2.2⟩ (fun H locs hI => ?_)
  refine lv_istore (lv' := [(6, .int k), (0, .ref b), (1, .ref (w.1 12 16)), (2, .ref (w.1 12 47)), (3, .ref oL), (4, .ref oD), (5, .int (Int32.ofNat i0))]) hx hb dL_law_1042 hl (by decide) rfl (fun ls hl => ?_)
  refine lv_aload_n hx hb dL_law_1044 rfl (lv_at hl 3 rfl) ?_
  refine l_callV (As := []) (rest := []) hx hb hml hown hI (c_X12_threshold l w H.size M r M2 h2) (kb_X12_threshold hI.1.T (q1685 hI.1.T) (Nat.le_trans (Nat.le_of_ble_eq_true rfl) hR.1) (Nat.le_trans (Nat.le_of_ble_eq_true rfl) hR.2.1)) (q1686 hI.1.T) (q1687 hI.1.T) (m_recv hI.1 (mokX (by decide) (by decide)) rfl rfl) rfl hl.1 (Nat.le_of_ble_eq_true rfl) dL_law_1045 ⟨(Nat.le_trans (Nat.add_le_add_left (Nat.le_of_ble_eq_true rfl) _) hR.2.2.1), (Nat.le_trans (Nat.add_le_add_left (Nat.le_of_ble_eq_true rfl) _) hR.2.2.2)⟩ (fun H locs hI => ?_)
  refine lv_istore (lv' := [(7, .int r), (6, .int k), (0, .ref b), (1, .ref (w.1 12 16)), (2, .ref (w.1 12 47)), (3, .ref oL), (4, .ref oD), (5, .int (Int32.ofNat i0))]) hx hb dL_law_1048 hl (by decide) rfl (fun ls hl => ?_)
  refine lv_aload_n hx hb dL_law_1050 rfl (lv_at hl 4 rfl) ?_
  refine l_callV (As := []) (rest := []) hx hb hml hown hI (c_X12_thrown l w H.size M2 (M2 12 47 0) rfl) (kb_X12_thrown hI.1.T (q1496 hI.1.T) (Nat.le_trans (Nat.le_of_ble_eq_true rfl) hR.1) (Nat.le_trans (Nat.le_of_ble_eq_true rfl) hR.2.1)) (q1497 hI.1.T) (q1498 hI.1.T) (m_recv hI.1 (mokX (by decide) (by decide)) rfl rfl) rfl hl.1 (Nat.le_of_ble_eq_true rfl) dL_law_1051 ⟨(Nat.le_trans (Nat.add_le_add_left (Nat.le_of_ble_eq_true rfl) _) hR.2.2.1), (Nat.le_trans (Nat.add_le_add_left (Nat.le_of_ble_eq_true rfl) _) hR.2.2.2)⟩ (fun H locs hI => ?_)
  refine lv_iload hx hb dL_law_1054 (lv_at hl 1 rfl) ?_
  refine lv_icmp_eq (tgt := 1061) hx hb dL_law_1056 (by decide) (fun _ => ?_) (fun c2 => absurd hth c2)
  refine lv_iload hx hb dL_law_1061 (lv_at hl 1 rfl) ?_
  refine lv_if_ne (tgt := 1078) hx hb dL_law_1063 (by decide) (fun _ => ?_) (fun c2 => ?_)
  · refine lv_goto (tgt := 2998) hx hb dL_law_1078 (by decide) ?_
    exact kk H locs ls (lv_sub hl [2, 3, 4, 5, 6, 7] rfl) hI
  refine lv_aload_n hx hb dL_law_1066 rfl (lv_at hl 5 rfl) ?_
  refine lv_iconst (v := 0) hx hb dL_law_1067 (by decide) ?_
  refine l_lald hx hb hI dL_law_1068 ?_
  refine lv_iload hx hb dL_law_1069 (lv_at hl 0 rfl) ?_
  refine lv_i2l (v := r.toInt64) hx hb dL_law_1071 rfl ?_
  refine W.lcmp hx hb dL_law_1072 ?_
  refine lv_if_eq (tgt := 1078) hx hb dL_law_1073 (by decide) (fun _ => ?_) (fun c3 => absurd (by rw [hag c2]; exact lg_cmp0 _) c3)
  refine lv_goto (tgt := 2998) hx hb dL_law_1078 (by decide) ?_
  exact kk H locs ls (lv_sub hl [2, 3, 4, 5, 6, 7] rfl) hI
set_option maxRecDepth 100000 in
theorem l_c15 {p : Program} {l : Launch} {e : Env} {R : Room} {s : State} {m : MethodId} {args : Array Value} {below : List Frame} {meth : Method} {c : Code} {H : Heap} {locs : List Loc} {cells slots : Nat} {Q : State → Prop} {ls : Array Slot} {w : WD} {oL oD b L i0 : Nat} {xs : Nat → Int32} {cL cD : ClassId} {x : Int64} {y : UInt64} (hsf : l.stackTraces = false) (hx : p.tables.exec = Jvm.exec) (hb : c.code = cL_law) (hml : c.maxLocals = 10) (hown : s.vm.findClass "ShareVaultLaw" = some m.cls) (hR : 13 ≤ R.frames ∧ 400 ≤ R.locals ∧ cells + 2 ≤ R.cells ∧ slots + 12 ≤ R.slots) (hi : i0 + 4 < L) (hLL : L ≤ 2560) (hl : lv_has ls 10 (lLoc w b oL oD i0)) {M M2 : Mem} {o : Nat ⊕ Int32} {r k : Int32} {x1 : Int64} (hI : lI w s H locs oL oD cL cD x y b L xs M) (h1 : f_X11_share (xs (i0 + 1)) M = some o) (hres : hRes [(1, 1), (4, 2)] (fun v => v.toInt64) x o k x1) (h2 : f_X12_share (xs (i0 + 1)) M = some (r, M2)) (hth : M2 12 47 0 = k) (hag : k = 0 → x1 = r.toInt64) (kk : ∀ (H1 : Heap) (locs1 : List Loc) (ls1 : Array Slot), lv_has ls1 10 (lLoc w b oL oD i0) → lI w s H1 locs1 oL oD cL cD x1 y b L xs M2 → W p l e R s m args below meth c H1 locs1 (cells + 2) (slots + 12) Q (F0 m 2998 ls1 [])) : W p l e R s m args below meth c H locs cells slots Q (F0 m 1081 ls []) := by
  refine lv_aload_n hx hb dL_law_1081 rfl (lv_at hl 1 rfl) ?_
  refine l_arg (j := 1) hx hb hI hi hLL (by decide) (lv_at hl 0 rfl) (lv_at hl 5 rfl) dL_law_1082 (by decide) dL_law_1083 dL_law_1085 dL_law_1086 dL_law_1087 ?_
  refine lv_aload_n hx hb dL_law_1088 rfl (lv_at hl 3 rfl) ?_
  refine l_help (As := [.ref (w.1 12 16), .int (xs (i0 + 1)), .ref oL]) (rest := []) hx hb hml hown hI (h_share l w hsf H.size oL cL x (xs (i0 + 1)) M o h1 k x1 hres) (l_cw (n := 3) hI.1.T (tin4 (List.mem_of_getElem? (l := tables_1_4) (i := 233) rfl)) (q951 hI.1.T) (q952 hI.1.T) (q0 hI.1.T) (by decide +kernel) ⟨rfl, rfl, (Nat.le_trans (Nat.le_of_ble_eq_true rfl) hR.1), (Nat.le_trans (Nat.le_of_ble_eq_true rfl) hR.2.1)⟩) rfl hl.1 (Nat.le_of_ble_eq_true rfl) dL_law_1089 ⟨Nat.le_trans (Nat.add_le_add_left (Nat.le_of_ble_eq_true rfl) _) hR.2.2.1, Nat.le_trans (Nat.add_le_add_left (Nat.le_of_ble_eq_true rfl) _) hR.2.2.2⟩ (fun H locs hI => ?_)
  refine lv_istore (lv' := [(6, .int k), (0, .ref b), (1, .ref (w.1 12 16)), (2, .ref (w.1 12 47)), (3, .ref oL), (4, .ref oD), (5, .int (Int32.ofNat i0))]) hx hb dL_law_1092 hl (by decide) rfl (fun ls hl => ?_)
  refine lv_aload_n hx hb dL_law_1094 rfl (lv_at hl 3 rfl) ?_
  refine l_arg (j := 1) hx hb hI hi hLL (by decide) (lv_at hl 1 rfl) (lv_at hl 6 rfl) dL_law_1095 (by decide) dL_law_1096 dL_law_1098 dL_law_1099 dL_law_1100 ?_
  refine l_callV (As := [.int (xs (i0 + 1))]) (rest := []) hx hb hml hown hI (c_X12_share l w H.size (xs (i0 + 1)) M r M2 h2) (kb_X12_share hI.1.T (q1689 hI.1.T) (Nat.le_trans (Nat.le_of_ble_eq_true rfl) hR.1) (Nat.le_trans (Nat.le_of_ble_eq_true rfl) hR.2.1)) (q1690 hI.1.T) (q1691 hI.1.T) (m_recv hI.1 (mokX (by decide) (by decide)) rfl rfl) rfl hl.1 (Nat.le_of_ble_eq_true rfl) dL_law_1101 ⟨(Nat.le_trans (Nat.add_le_add_left (Nat.le_of_ble_eq_true rfl) _) hR.2.2.1), (Nat.le_trans (Nat.add_le_add_left (Nat.le_of_ble_eq_true rfl) _) hR.2.2.2)⟩ (fun H locs hI => ?_)
  refine lv_istore (lv' := [(7, .int r), (6, .int k), (0, .ref b), (1, .ref (w.1 12 16)), (2, .ref (w.1 12 47)), (3, .ref oL), (4, .ref oD), (5, .int (Int32.ofNat i0))]) hx hb dL_law_1104 hl (by decide) rfl (fun ls hl => ?_)
  refine lv_aload_n hx hb dL_law_1106 rfl (lv_at hl 4 rfl) ?_
  refine l_callV (As := []) (rest := []) hx hb hml hown hI (c_X12_thrown l w H.size M2 (M2 12 47 0) rfl) (kb_X12_thrown hI.1.T (q1496 hI.1.T) (Nat.le_trans (Nat.le_of_ble_eq_true rfl) hR.1) (Nat.le_trans (Nat.le_of_ble_eq_true rfl) hR.2.1)) (q1497 hI.1.T) (q1498 hI.1.T) (m_recv hI.1 (mokX (by decide) (by decide)) rfl rfl) rfl hl.1 (Nat.le_of_ble_eq_true rfl) dL_law_1107 ⟨(Nat.le_trans (Nat.add_le_add_left (Nat.le_of_ble_eq_true rfl) _) hR.2.2.1), (Nat.le_trans (Nat.add_le_add_left (Nat.le_of_ble_eq_true rfl) _) hR.2.2.2)⟩ (fun H locs hI => ?_)
  refine lv_iload hx hb dL_law_1110 (lv_at hl 1 rfl) ?_
  refine lv_icmp_eq (tgt := 1117) hx hb dL_law_1112 (by decide) (fun _ => ?_) (fun c2 => absurd hth c2)
  refine lv_iload hx hb dL_law_1117 (lv_at hl 1 rfl) ?_
  refine lv_if_ne (tgt := 1134) hx hb dL_law_1119 (by decide) (fun _ => ?_) (fun c2 => ?_)
  · refine lv_goto (tgt := 2998) hx hb dL_law_1134 (by decide) ?_
    exact kk H locs ls (lv_sub hl [2, 3, 4, 5, 6, 7] rfl) hI
  refine lv_aload_n hx hb dL_law_1122 rfl (lv_at hl 5 rfl) ?_
  refine lv_iconst (v := 0) hx hb dL_law_1123 (by decide) ?_
  refine l_lald hx hb hI dL_law_1124 ?_
  refine lv_iload hx hb dL_law_1125 (lv_at hl 0 rfl) ?_
  refine lv_i2l (v := r.toInt64) hx hb dL_law_1127 rfl ?_
  refine W.lcmp hx hb dL_law_1128 ?_
  refine lv_if_eq (tgt := 1134) hx hb dL_law_1129 (by decide) (fun _ => ?_) (fun c3 => absurd (by rw [hag c2]; exact lg_cmp0 _) c3)
  refine lv_goto (tgt := 2998) hx hb dL_law_1134 (by decide) ?_
  exact kk H locs ls (lv_sub hl [2, 3, 4, 5, 6, 7] rfl) hI
set_option maxRecDepth 100000 in
theorem l_c16 {p : Program} {l : Launch} {e : Env} {R : Room} {s : State} {m : MethodId} {args : Array Value} {below : List Frame} {meth : Method} {c : Code} {H : Heap} {locs : List Loc} {cells slots : Nat} {Q : State → Prop} {ls : Array Slot} {w : WD} {oL oD b L i0 : Nat} {xs : Nat → Int32} {cL cD : ClassId} {x : Int64} {y : UInt64} (hsf : l.stackTraces = false) (hx : p.tables.exec = Jvm.exec) (hb : c.code = cL_law) (hml : c.maxLocals = 10) (hown : s.vm.findClass "ShareVaultLaw" = some m.cls) (hR : 13 ≤ R.frames ∧ 400 ≤ R.locals ∧ cells + 2 ≤ R.cells ∧ slots + 12 ≤ R.slots) (hi : i0 + 4 < L) (hLL : L ≤ 2560) (hl : lv_has ls 10 (lLoc w b oL oD i0)) {M M2 : Mem} {o : Nat ⊕ Int32} {r k : Int32} {x1 : Int64} (hI : lI w s H locs oL oD cL cD x y b L xs M) (h1 : f_X11_isCorrect (xs (i0 + 1)) M = some o) (hres : hRes [(1, 1), (4, 2)] (fun v => if v = 0 then 0 else 1) x o k x1) (h2 : f_X12_isCorrect (xs (i0 + 1)) M = some (r, M2)) (hth : M2 12 47 0 = k) (hag : k = 0 → x1 = (if r = 0 then (0 : Int64) else 1)) (kk : ∀ (H1 : Heap) (locs1 : List Loc) (ls1 : Array Slot), lv_has ls1 10 (lLoc w b oL oD i0) → lI w s H1 locs1 oL oD cL cD x1 y b L xs M2 → W p l e R s m args below meth c H1 locs1 (cells + 2) (slots + 12) Q (F0 m 2998 ls1 [])) : W p l e R s m args below meth c H locs cells slots Q (F0 m 1137 ls []) := by
  refine lv_aload_n hx hb dL_law_1137 rfl (lv_at hl 1 rfl) ?_
  refine l_arg (j := 1) hx hb hI hi hLL (by decide) (lv_at hl 0 rfl) (lv_at hl 5 rfl) dL_law_1138 (by decide) dL_law_1139 dL_law_1141 dL_law_1142 dL_law_1143 ?_
  refine lv_aload_n hx hb dL_law_1144 rfl (lv_at hl 3 rfl) ?_
  refine l_help (As := [.ref (w.1 12 16), .int (xs (i0 + 1)), .ref oL]) (rest := []) hx hb hml hown hI (h_isCorrect l w hsf H.size oL cL x (xs (i0 + 1)) M o h1 k x1 hres) (l_cw (n := 3) hI.1.T (tin5 (List.mem_of_getElem? (l := tables_1_5) (i := 6) rfl)) (q964 hI.1.T) (q965 hI.1.T) (q0 hI.1.T) (by decide +kernel) ⟨rfl, rfl, (Nat.le_trans (Nat.le_of_ble_eq_true rfl) hR.1), (Nat.le_trans (Nat.le_of_ble_eq_true rfl) hR.2.1)⟩) rfl hl.1 (Nat.le_of_ble_eq_true rfl) dL_law_1145 ⟨Nat.le_trans (Nat.add_le_add_left (Nat.le_of_ble_eq_true rfl) _) hR.2.2.1, Nat.le_trans (Nat.add_le_add_left (Nat.le_of_ble_eq_true rfl) _) hR.2.2.2⟩ (fun H locs hI => ?_)
  refine lv_istore (lv' := [(6, .int k), (0, .ref b), (1, .ref (w.1 12 16)), (2, .ref (w.1 12 47)), (3, .ref oL), (4, .ref oD), (5, .int (Int32.ofNat i0))]) hx hb dL_law_1148 hl (by decide) rfl (fun ls hl => ?_)
  refine lv_aload_n hx hb dL_law_1150 rfl (lv_at hl 3 rfl) ?_
  refine l_arg (j := 1) hx hb hI hi hLL (by decide) (lv_at hl 1 rfl) (lv_at hl 6 rfl) dL_law_1151 (by decide) dL_law_1152 dL_law_1154 dL_law_1155 dL_law_1156 ?_
  refine l_callV (As := [.int (xs (i0 + 1))]) (rest := []) hx hb hml hown hI (c_X12_isCorrect l w H.size (xs (i0 + 1)) M r M2 h2) (kb_X12_isCorrect hI.1.T (q1697 hI.1.T) (Nat.le_trans (Nat.le_of_ble_eq_true rfl) hR.1) (Nat.le_trans (Nat.le_of_ble_eq_true rfl) hR.2.1)) (q1698 hI.1.T) (q1699 hI.1.T) (m_recv hI.1 (mokX (by decide) (by decide)) rfl rfl) rfl hl.1 (Nat.le_of_ble_eq_true rfl) dL_law_1157 ⟨(Nat.le_trans (Nat.add_le_add_left (Nat.le_of_ble_eq_true rfl) _) hR.2.2.1), (Nat.le_trans (Nat.add_le_add_left (Nat.le_of_ble_eq_true rfl) _) hR.2.2.2)⟩ (fun H locs hI => ?_)
  refine lv_istore (lv' := [(7, .int r), (6, .int k), (0, .ref b), (1, .ref (w.1 12 16)), (2, .ref (w.1 12 47)), (3, .ref oL), (4, .ref oD), (5, .int (Int32.ofNat i0))]) hx hb dL_law_1160 hl (by decide) rfl (fun ls hl => ?_)
  refine lv_aload_n hx hb dL_law_1162 rfl (lv_at hl 4 rfl) ?_
  refine l_callV (As := []) (rest := []) hx hb hml hown hI (c_X12_thrown l w H.size M2 (M2 12 47 0) rfl) (kb_X12_thrown hI.1.T (q1496 hI.1.T) (Nat.le_trans (Nat.le_of_ble_eq_true rfl) hR.1) (Nat.le_trans (Nat.le_of_ble_eq_true rfl) hR.2.1)) (q1497 hI.1.T) (q1498 hI.1.T) (m_recv hI.1 (mokX (by decide) (by decide)) rfl rfl) rfl hl.1 (Nat.le_of_ble_eq_true rfl) dL_law_1163 ⟨(Nat.le_trans (Nat.add_le_add_left (Nat.le_of_ble_eq_true rfl) _) hR.2.2.1), (Nat.le_trans (Nat.add_le_add_left (Nat.le_of_ble_eq_true rfl) _) hR.2.2.2)⟩ (fun H locs hI => ?_)
  refine lv_iload hx hb dL_law_1166 (lv_at hl 1 rfl) ?_
  refine lv_icmp_eq (tgt := 1173) hx hb dL_law_1168 (by decide) (fun _ => ?_) (fun c2 => absurd hth c2)
  refine lv_iload hx hb dL_law_1173 (lv_at hl 1 rfl) ?_
  refine lv_if_ne (tgt := 1197) hx hb dL_law_1175 (by decide) (fun _ => ?_) (fun c2 => ?_)
  · refine lv_goto (tgt := 2998) hx hb dL_law_1197 (by decide) ?_
    exact kk H locs ls (lv_sub hl [2, 3, 4, 5, 6, 7] rfl) hI
  refine lv_aload_n hx hb dL_law_1178 rfl (lv_at hl 5 rfl) ?_
  refine lv_iconst (v := 0) hx hb dL_law_1179 (by decide) ?_
  refine l_lald hx hb hI dL_law_1180 ?_
  refine lv_iload hx hb dL_law_1181 (lv_at hl 0 rfl) ?_
  refine l_lbool hx hb dL_law_1183 dL_law_1186 dL_law_1187 dL_law_1190 ?_
  refine W.lcmp hx hb dL_law_1191 ?_
  refine lv_if_eq (tgt := 1197) hx hb dL_law_1192 (by decide) (fun _ => ?_) (fun c3 => absurd (by rw [hag c2]; exact lg_cmp0 _) c3)
  refine lv_goto (tgt := 2998) hx hb dL_law_1197 (by decide) ?_
  exact kk H locs ls (lv_sub hl [2, 3, 4, 5, 6, 7] rfl) hI
set_option maxRecDepth 100000 in
theorem l_c17 {p : Program} {l : Launch} {e : Env} {R : Room} {s : State} {m : MethodId} {args : Array Value} {below : List Frame} {meth : Method} {c : Code} {H : Heap} {locs : List Loc} {cells slots : Nat} {Q : State → Prop} {ls : Array Slot} {w : WD} {oL oD b L i0 : Nat} {xs : Nat → Int32} {cL cD : ClassId} {x : Int64} {y : UInt64} (hsf : l.stackTraces = false) (hx : p.tables.exec = Jvm.exec) (hb : c.code = cL_law) (hml : c.maxLocals = 10) (hown : s.vm.findClass "ShareVaultLaw" = some m.cls) (hR : 13 ≤ R.frames ∧ 400 ≤ R.locals ∧ cells + 2 ≤ R.cells ∧ slots + 12 ≤ R.slots) (hi : i0 + 4 < L) (hLL : L ≤ 2560) (hl : lv_has ls 10 (lLoc w b oL oD i0)) {M M2 : Mem} {o : Nat ⊕ Int32} {r k : Int32} {x1 : Int64} (hI : lI w s H locs oL oD cL cD x y b L xs M) (h1 : f_X11_isPresented (xs (i0 + 1)) M = some o) (hres : hRes [(1, 1)] (fun v => if v = 0 then 0 else 1) x o k x1) (h2 : f_X12_isPresented (xs (i0 + 1)) M = some (r, M2)) (hth : M2 12 47 0 = k) (hag : k = 0 → x1 = (if r = 0 then (0 : Int64) else 1)) (kk : ∀ (H1 : Heap) (locs1 : List Loc) (ls1 : Array Slot), lv_has ls1 10 (lLoc w b oL oD i0) → lI w s H1 locs1 oL oD cL cD x1 y b L xs M2 → W p l e R s m args below meth c H1 locs1 (cells + 1) (slots + 6) Q (F0 m 2998 ls1 [])) : W p l e R s m args below meth c H locs cells slots Q (F0 m 1200 ls []) := by
  refine lv_aload_n hx hb dL_law_1200 rfl (lv_at hl 1 rfl) ?_
  refine l_arg (j := 1) hx hb hI hi hLL (by decide) (lv_at hl 0 rfl) (lv_at hl 5 rfl) dL_law_1201 (by decide) dL_law_1202 dL_law_1204 dL_law_1205 dL_law_1206 ?_
  refine lv_aload_n hx hb dL_law_1207 rfl (lv_at hl 3 rfl) ?_
  refine l_help (As := [.ref (w.1 12 16), .int (xs (i0 + 1)), .ref oL]) (rest := []) hx hb hml hown hI (h_isPresented l w hsf H.size oL cL x (xs (i0 + 1)) M o h1 k x1 hres) (l_cw (n := 3) hI.1.T (tin5 (List.mem_of_getElem? (l := tables_1_5) (i := 14) rfl)) (q972 hI.1.T) (q973 hI.1.T) (q0 hI.1.T) (by decide +kernel) ⟨rfl, rfl, (Nat.le_trans (Nat.le_of_ble_eq_true rfl) hR.1), (Nat.le_trans (Nat.le_of_ble_eq_true rfl) hR.2.1)⟩) rfl hl.1 (Nat.le_of_ble_eq_true rfl) dL_law_1208 ⟨Nat.le_trans (Nat.add_le_add_left (Nat.le_of_ble_eq_true rfl) _) hR.2.2.1, Nat.le_trans (Nat.add_le_add_left (Nat.le_of_ble_eq_true rfl) _) hR.2.2.2⟩ (fun H locs hI => ?_)
  refine lv_istore (lv' := [(6, .int k), (0, .ref b), (1, .ref (w.1 12 16)), (2, .ref (w.1 12 47)), (3, .ref oL), (4, .ref oD), (5, .int (Int32.ofNat i0))]) hx hb dL_law_1211 hl (by decide) rfl (fun ls hl => ?_)
  refine lv_aload_n hx hb dL_law_1213 rfl (lv_at hl 3 rfl) ?_
  refine l_arg (j := 1) hx hb hI hi hLL (by decide) (lv_at hl 1 rfl) (lv_at hl 6 rfl) dL_law_1214 (by decide) dL_law_1215 dL_law_1217 dL_law_1218 dL_law_1219 ?_
  refine l_callV (As := [.int (xs (i0 + 1))]) (rest := []) hx hb hml hown hI (c_X12_isPresented l w H.size (xs (i0 + 1)) M r M2 h2) (kb_X12_isPresented hI.1.T (q1701 hI.1.T) (Nat.le_trans (Nat.le_of_ble_eq_true rfl) hR.1) (Nat.le_trans (Nat.le_of_ble_eq_true rfl) hR.2.1)) (q1702 hI.1.T) (q1703 hI.1.T) (m_recv hI.1 (mokX (by decide) (by decide)) rfl rfl) rfl hl.1 (Nat.le_of_ble_eq_true rfl) dL_law_1220 ⟨(Nat.le_trans (Nat.add_le_add_left (Nat.le_of_ble_eq_true rfl) _) hR.2.2.1), (Nat.le_trans (Nat.add_le_add_left (Nat.le_of_ble_eq_true rfl) _) hR.2.2.2)⟩ (fun H locs hI => ?_)
  refine lv_istore (lv' := [(7, .int r), (6, .int k), (0, .ref b), (1, .ref (w.1 12 16)), (2, .ref (w.1 12 47)), (3, .ref oL), (4, .ref oD), (5, .int (Int32.ofNat i0))]) hx hb dL_law_1223 hl (by decide) rfl (fun ls hl => ?_)
  refine lv_aload_n hx hb dL_law_1225 rfl (lv_at hl 4 rfl) ?_
  refine l_callV (As := []) (rest := []) hx hb hml hown hI (c_X12_thrown l w H.size M2 (M2 12 47 0) rfl) (kb_X12_thrown hI.1.T (q1496 hI.1.T) (Nat.le_trans (Nat.le_of_ble_eq_true rfl) hR.1) (Nat.le_trans (Nat.le_of_ble_eq_true rfl) hR.2.1)) (q1497 hI.1.T) (q1498 hI.1.T) (m_recv hI.1 (mokX (by decide) (by decide)) rfl rfl) rfl hl.1 (Nat.le_of_ble_eq_true rfl) dL_law_1226 ⟨(Nat.le_trans (Nat.add_le_add_left (Nat.le_of_ble_eq_true rfl) _) hR.2.2.1), (Nat.le_trans (Nat.add_le_add_left (Nat.le_of_ble_eq_true rfl) _) hR.2.2.2)⟩ (fun H locs hI => ?_)
  refine lv_iload hx hb dL_law_1229 (lv_at hl 1 rfl) ?_
  refine lv_icmp_eq (tgt := 1236) hx hb dL_law_1231 (by decide) (fun _ => ?_) (fun c2 => absurd hth c2)
  refine lv_iload hx hb dL_law_1236 (lv_at hl 1 rfl) ?_
  refine lv_if_ne (tgt := 1260) hx hb dL_law_1238 (by decide) (fun _ => ?_) (fun c2 => ?_)
  · refine lv_goto (tgt := 2998) hx hb dL_law_1260 (by decide) ?_
    exact kk H locs ls (lv_sub hl [2, 3, 4, 5, 6, 7] rfl) hI
  refine lv_aload_n hx hb dL_law_1241 rfl (lv_at hl 5 rfl) ?_
  refine lv_iconst (v := 0) hx hb dL_law_1242 (by decide) ?_
  refine l_lald hx hb hI dL_law_1243 ?_
  refine lv_iload hx hb dL_law_1244 (lv_at hl 0 rfl) ?_
  refine l_lbool hx hb dL_law_1246 dL_law_1249 dL_law_1250 dL_law_1253 ?_
  refine W.lcmp hx hb dL_law_1254 ?_
  refine lv_if_eq (tgt := 1260) hx hb dL_law_1255 (by decide) (fun _ => ?_) (fun c3 => absurd (by rw [hag c2]; exact lg_cmp0 _) c3)
  refine lv_goto (tgt := 2998) hx hb dL_law_1260 (by decide) ?_
  exact kk H locs ls (lv_sub hl [2, 3, 4, 5, 6, 7] rfl) hI
set_option maxRecDepth 100000 in
theorem l_c18 {p : Program} {l : Launch} {e : Env} {R : Room} {s : State} {m : MethodId} {args : Array Value} {below : List Frame} {meth : Method} {c : Code} {H : Heap} {locs : List Loc} {cells slots : Nat} {Q : State → Prop} {ls : Array Slot} {w : WD} {oL oD b L i0 : Nat} {xs : Nat → Int32} {cL cD : ClassId} {x : Int64} {y : UInt64} (hsf : l.stackTraces = false) (hx : p.tables.exec = Jvm.exec) (hb : c.code = cL_law) (hml : c.maxLocals = 10) (hown : s.vm.findClass "ShareVaultLaw" = some m.cls) (hR : 13 ≤ R.frames ∧ 400 ≤ R.locals ∧ cells + 2 ≤ R.cells ∧ slots + 12 ≤ R.slots) (hi : i0 + 4 < L) (hLL : L ≤ 2560) (hl : lv_has ls 10 (lLoc w b oL oD i0)) {M M2 : Mem} {r : Int32} (hI : lI w s H locs oL oD cL cD x y b L xs M) (h1 : f_X11_presentedCount M = some r) (h2 : f_X12_presentedCount M = some (r, M2)) (kk : ∀ (H1 : Heap) (locs1 : List Loc), lI w s H1 locs1 oL oD cL cD x y b L xs M2 → W p l e R s m args below meth c H1 locs1 cells slots Q (F0 m 2998 ls [])) : W p l e R s m args below meth c H locs cells slots Q (F0 m 1263 ls []) := by
  refine lv_aload_n hx hb dL_law_1263 rfl (lv_at hl 1 rfl) ?_
  refine l_callV (As := []) (rest := []) hx hb hml hown hI (c_X11_presentedCount l w H.size M r h1) (kb_X11_presentedCount hI.1.T (q342 hI.1.T) (Nat.le_trans (Nat.le_of_ble_eq_true rfl) hR.1) (Nat.le_trans (Nat.le_of_ble_eq_true rfl) hR.2.1)) (q343 hI.1.T) (q344 hI.1.T) (m_recv hI.1 (mokX (by decide) (by decide)) rfl rfl) rfl hl.1 (Nat.le_of_ble_eq_true rfl) dL_law_1264 ⟨(Nat.le_trans (Nat.le_add_right _ _) hR.2.2.1), (Nat.le_trans (Nat.le_add_right _ _) hR.2.2.2)⟩ (fun H locs hI => ?_)
  refine lv_aload_n hx hb dL_law_1267 rfl (lv_at hl 2 rfl) ?_
  refine l_callV (As := []) (rest := [.int r]) hx hb hml hown hI (c_X12_presentedCount l w H.size M r M2 h2) (kb_X12_presentedCount hI.1.T (q1705 hI.1.T) (Nat.le_trans (Nat.le_of_ble_eq_true rfl) hR.1) (Nat.le_trans (Nat.le_of_ble_eq_true rfl) hR.2.1)) (q1706 hI.1.T) (q1707 hI.1.T) (m_recv hI.1 (mokX (by decide) (by decide)) rfl rfl) rfl hl.1 (Nat.le_of_ble_eq_true rfl) dL_law_1268 ⟨(Nat.le_trans (Nat.le_add_right _ _) hR.2.2.1), (Nat.le_trans (Nat.le_add_right _ _) hR.2.2.2)⟩ (fun H locs hI => ?_)
  refine lv_icmp_eq (tgt := 2998) hx hb dL_law_1271 (by decide) (fun _ => ?_) (fun c2 => absurd rfl c2)
  exact kk H locs hI
set_option maxRecDepth 100000 in
theorem l_c19 {p : Program} {l : Launch} {e : Env} {R : Room} {s : State} {m : MethodId} {args : Array Value} {below : List Frame} {meth : Method} {c : Code} {H : Heap} {locs : List Loc} {cells slots : Nat} {Q : State → Prop} {ls : Array Slot} {w : WD} {oL oD b L i0 : Nat} {xs : Nat → Int32} {cL cD : ClassId} {x : Int64} {y : UInt64} (hsf : l.stackTraces = false) (hx : p.tables.exec = Jvm.exec) (hb : c.code = cL_law) (hml : c.maxLocals = 10) (hown : s.vm.findClass "ShareVaultLaw" = some m.cls) (hR : 13 ≤ R.frames ∧ 400 ≤ R.locals ∧ cells + 2 ≤ R.cells ∧ slots + 12 ≤ R.slots) (hi : i0 + 4 < L) (hLL : L ≤ 2560) (hl : lv_has ls 10 (lLoc w b oL oD i0)) {M M2 : Mem} {o : Nat ⊕ Int32} {r k : Int32} {x1 : Int64} (hI : lI w s H locs oL oD cL cD x y b L xs M) (h1 : f_X11_presentedAt (xs (i0 + 1)) M = some o) (hres : hRes [(4, 1)] (fun v => v.toInt64) x o k x1) (h2 : f_X12_presentedAt (xs (i0 + 1)) M = some (r, M2)) (hth : M2 12 47 0 = k) (hag : k = 0 → x1 = r.toInt64) (kk : ∀ (H1 : Heap) (locs1 : List Loc) (ls1 : Array Slot), lv_has ls1 10 (lLoc w b oL oD i0) → lI w s H1 locs1 oL oD cL cD x1 y b L xs M2 → W p l e R s m args below meth c H1 locs1 (cells + 1) (slots + 6) Q (F0 m 2998 ls1 [])) : W p l e R s m args below meth c H locs cells slots Q (F0 m 1276 ls []) := by
  refine lv_aload_n hx hb dL_law_1276 rfl (lv_at hl 1 rfl) ?_
  refine l_arg (j := 1) hx hb hI hi hLL (by decide) (lv_at hl 0 rfl) (lv_at hl 5 rfl) dL_law_1277 (by decide) dL_law_1278 dL_law_1280 dL_law_1281 dL_law_1282 ?_
  refine lv_aload_n hx hb dL_law_1283 rfl (lv_at hl 3 rfl) ?_
  refine l_help (As := [.ref (w.1 12 16), .int (xs (i0 + 1)), .ref oL]) (rest := []) hx hb hml hown hI (h_presentedAt l w hsf H.size oL cL x (xs (i0 + 1)) M o h1 k x1 hres) (l_cw (n := 3) hI.1.T (tin5 (List.mem_of_getElem? (l := tables_1_5) (i := 22) rfl)) (q980 hI.1.T) (q981 hI.1.T) (q0 hI.1.T) (by decide +kernel) ⟨rfl, rfl, (Nat.le_trans (Nat.le_of_ble_eq_true rfl) hR.1), (Nat.le_trans (Nat.le_of_ble_eq_true rfl) hR.2.1)⟩) rfl hl.1 (Nat.le_of_ble_eq_true rfl) dL_law_1284 ⟨Nat.le_trans (Nat.add_le_add_left (Nat.le_of_ble_eq_true rfl) _) hR.2.2.1, Nat.le_trans (Nat.add_le_add_left (Nat.le_of_ble_eq_true rfl) _) hR.2.2.2⟩ (fun H locs hI => ?_)
  refine lv_istore (lv' := [(6, .int k), (0, .ref b), (1, .ref (w.1 12 16)), (2, .ref (w.1 12 47)), (3, .ref oL), (4, .ref oD), (5, .int (Int32.ofNat i0))]) hx hb dL_law_1287 hl (by decide) rfl (fun ls hl => ?_)
  refine lv_aload_n hx hb dL_law_1289 rfl (lv_at hl 3 rfl) ?_
  refine l_arg (j := 1) hx hb hI hi hLL (by decide) (lv_at hl 1 rfl) (lv_at hl 6 rfl) dL_law_1290 (by decide) dL_law_1291 dL_law_1293 dL_law_1294 dL_law_1295 ?_
  refine l_callV (As := [.int (xs (i0 + 1))]) (rest := []) hx hb hml hown hI (c_X12_presentedAt l w H.size (xs (i0 + 1)) M r M2 h2) (kb_X12_presentedAt hI.1.T (q1709 hI.1.T) (Nat.le_trans (Nat.le_of_ble_eq_true rfl) hR.1) (Nat.le_trans (Nat.le_of_ble_eq_true rfl) hR.2.1)) (q1710 hI.1.T) (q1711 hI.1.T) (m_recv hI.1 (mokX (by decide) (by decide)) rfl rfl) rfl hl.1 (Nat.le_of_ble_eq_true rfl) dL_law_1296 ⟨(Nat.le_trans (Nat.add_le_add_left (Nat.le_of_ble_eq_true rfl) _) hR.2.2.1), (Nat.le_trans (Nat.add_le_add_left (Nat.le_of_ble_eq_true rfl) _) hR.2.2.2)⟩ (fun H locs hI => ?_)
  refine lv_istore (lv' := [(7, .int r), (6, .int k), (0, .ref b), (1, .ref (w.1 12 16)), (2, .ref (w.1 12 47)), (3, .ref oL), (4, .ref oD), (5, .int (Int32.ofNat i0))]) hx hb dL_law_1299 hl (by decide) rfl (fun ls hl => ?_)
  refine lv_aload_n hx hb dL_law_1301 rfl (lv_at hl 4 rfl) ?_
  refine l_callV (As := []) (rest := []) hx hb hml hown hI (c_X12_thrown l w H.size M2 (M2 12 47 0) rfl) (kb_X12_thrown hI.1.T (q1496 hI.1.T) (Nat.le_trans (Nat.le_of_ble_eq_true rfl) hR.1) (Nat.le_trans (Nat.le_of_ble_eq_true rfl) hR.2.1)) (q1497 hI.1.T) (q1498 hI.1.T) (m_recv hI.1 (mokX (by decide) (by decide)) rfl rfl) rfl hl.1 (Nat.le_of_ble_eq_true rfl) dL_law_1302 ⟨(Nat.le_trans (Nat.add_le_add_left (Nat.le_of_ble_eq_true rfl) _) hR.2.2.1), (Nat.le_trans (Nat.add_le_add_left (Nat.le_of_ble_eq_true rfl) _) hR.2.2.2)⟩ (fun H locs hI => ?_)
  refine lv_iload hx hb dL_law_1305 (lv_at hl 1 rfl) ?_
  refine lv_icmp_eq (tgt := 1312) hx hb dL_law_1307 (by decide) (fun _ => ?_) (fun c2 => absurd hth c2)
  refine lv_iload hx hb dL_law_1312 (lv_at hl 1 rfl) ?_
  refine lv_if_ne (tgt := 1329) hx hb dL_law_1314 (by decide) (fun _ => ?_) (fun c2 => ?_)
  · refine lv_goto (tgt := 2998) hx hb dL_law_1329 (by decide) ?_
    exact kk H locs ls (lv_sub hl [2, 3, 4, 5, 6, 7] rfl) hI
  refine lv_aload_n hx hb dL_law_1317 rfl (lv_at hl 5 rfl) ?_
  refine lv_iconst (v := 0) hx hb dL_law_1318 (by decide) ?_
  refine l_lald hx hb hI dL_law_1319 ?_
  refine lv_iload hx hb dL_law_1320 (lv_at hl 0 rfl) ?_
  refine lv_i2l (v := r.toInt64) hx hb dL_law_1322 rfl ?_
  refine W.lcmp hx hb dL_law_1323 ?_
  refine lv_if_eq (tgt := 1329) hx hb dL_law_1324 (by decide) (fun _ => ?_) (fun c3 => absurd (by rw [hag c2]; exact lg_cmp0 _) c3)
  refine lv_goto (tgt := 2998) hx hb dL_law_1329 (by decide) ?_
  exact kk H locs ls (lv_sub hl [2, 3, 4, 5, 6, 7] rfl) hI
set_option maxRecDepth 100000 in
theorem l_c20 {p : Program} {l : Launch} {e : Env} {R : Room} {s : State} {m : MethodId} {args : Array Value} {below : List Frame} {meth : Method} {c : Code} {H : Heap} {locs : List Loc} {cells slots : Nat} {Q : State → Prop} {ls : Array Slot} {w : WD} {oL oD b L i0 : Nat} {xs : Nat → Int32} {cL cD : ClassId} {x : Int64} {y : UInt64} (hsf : l.stackTraces = false) (hx : p.tables.exec = Jvm.exec) (hb : c.code = cL_law) (hml : c.maxLocals = 10) (hown : s.vm.findClass "ShareVaultLaw" = some m.cls) (hR : 13 ≤ R.frames ∧ 400 ≤ R.locals ∧ cells + 2 ≤ R.cells ∧ slots + 12 ≤ R.slots) (hi : i0 + 4 < L) (hLL : L ≤ 2560) (hl : lv_has ls 10 (lLoc w b oL oD i0)) {M M2 : Mem} {o : Nat ⊕ Int32} {r k : Int32} {x1 : Int64} (hI : lI w s H locs oL oD cL cD x y b L xs M) (h1 : f_X11_toldSecret M = some o) (hres : hRes [(4, 1)] (fun v => v.toInt64) x o k x1) (h2 : f_X12_toldSecret M = some (r, M2)) (hth : M2 12 47 0 = k) (hag : k = 0 → x1 = r.toInt64) (kk : ∀ (H1 : Heap) (locs1 : List Loc) (ls1 : Array Slot), lv_has ls1 10 (lLoc w b oL oD i0) → lI w s H1 locs1 oL oD cL cD x1 y b L xs M2 → W p l e R s m args below meth c H1 locs1 (cells + 1) (slots + 6) Q (F0 m 2998 ls1 [])) : W p l e R s m args below meth c H locs cells slots Q (F0 m 1332 ls []) := by
  refine lv_aload_n hx hb dL_law_1332 rfl (lv_at hl 1 rfl) ?_
  refine lv_aload_n hx hb dL_law_1333 rfl (lv_at hl 3 rfl) ?_
  refine l_help (As := [.ref (w.1 12 16), .ref oL]) (rest := []) hx hb hml hown hI (h_toldSecret l w hsf H.size oL cL x M o h1 k x1 hres) (l_cw (n := 2) hI.1.T (tin5 (List.mem_of_getElem? (l := tables_1_5) (i := 30) rfl)) (q988 hI.1.T) (q989 hI.1.T) (q0 hI.1.T) (by decide +kernel) ⟨rfl, rfl, (Nat.le_trans (Nat.le_of_ble_eq_true rfl) hR.1), (Nat.le_trans (Nat.le_of_ble_eq_true rfl) hR.2.1)⟩) rfl hl.1 (Nat.le_of_ble_eq_true rfl) dL_law_1334 ⟨Nat.le_trans (Nat.add_le_add_left (Nat.le_of_ble_eq_true rfl) _) hR.2.2.1, Nat.le_trans (Nat.add_le_add_left (Nat.le_of_ble_eq_true rfl) _) hR.2.2.2⟩ (fun H locs hI => ?_)
  refine lv_istore (lv' := [(6, .int k), (0, .ref b), (1, .ref (w.1 12 16)), (2, .ref (w.1 12 47)), (3, .ref oL), (4, .ref oD), (5, .int (Int32.ofNat i0))]) hx hb dL_law_1337 hl (by decide) rfl (fun ls hl => ?_)
  refine lv_aload_n hx hb dL_law_1339 rfl (lv_at hl 3 rfl) ?_
  refine l_callV (As := []) (rest := []) hx hb hml hown hI (c_X12_toldSecret l w H.size M r M2 h2) (kb_X12_toldSecret hI.1.T (q1713 hI.1.T) (Nat.le_trans (Nat.le_of_ble_eq_true rfl) hR.1) (Nat.le_trans (Nat.le_of_ble_eq_true rfl) hR.2.1)) (q1714 hI.1.T) (q1715 hI.1.T) (m_recv hI.1 (mokX (by decide) (by decide)) rfl rfl) rfl hl.1 (Nat.le_of_ble_eq_true rfl) dL_law_1340 ⟨(Nat.le_trans (Nat.add_le_add_left (Nat.le_of_ble_eq_true rfl) _) hR.2.2.1), (Nat.le_trans (Nat.add_le_add_left (Nat.le_of_ble_eq_true rfl) _) hR.2.2.2)⟩ (fun H locs hI => ?_)
  refine lv_istore (lv' := [(7, .int r), (6, .int k), (0, .ref b), (1, .ref (w.1 12 16)), (2, .ref (w.1 12 47)), (3, .ref oL), (4, .ref oD), (5, .int (Int32.ofNat i0))]) hx hb dL_law_1343 hl (by decide) rfl (fun ls hl => ?_)
  refine lv_aload_n hx hb dL_law_1345 rfl (lv_at hl 4 rfl) ?_
  refine l_callV (As := []) (rest := []) hx hb hml hown hI (c_X12_thrown l w H.size M2 (M2 12 47 0) rfl) (kb_X12_thrown hI.1.T (q1496 hI.1.T) (Nat.le_trans (Nat.le_of_ble_eq_true rfl) hR.1) (Nat.le_trans (Nat.le_of_ble_eq_true rfl) hR.2.1)) (q1497 hI.1.T) (q1498 hI.1.T) (m_recv hI.1 (mokX (by decide) (by decide)) rfl rfl) rfl hl.1 (Nat.le_of_ble_eq_true rfl) dL_law_1346 ⟨(Nat.le_trans (Nat.add_le_add_left (Nat.le_of_ble_eq_true rfl) _) hR.2.2.1), (Nat.le_trans (Nat.add_le_add_left (Nat.le_of_ble_eq_true rfl) _) hR.2.2.2)⟩ (fun H locs hI => ?_)
  refine lv_iload hx hb dL_law_1349 (lv_at hl 1 rfl) ?_
  refine lv_icmp_eq (tgt := 1356) hx hb dL_law_1351 (by decide) (fun _ => ?_) (fun c2 => absurd hth c2)
  refine lv_iload hx hb dL_law_1356 (lv_at hl 1 rfl) ?_
  refine lv_if_ne (tgt := 1373) hx hb dL_law_1358 (by decide) (fun _ => ?_) (fun c2 => ?_)
  · refine lv_goto (tgt := 2998) hx hb dL_law_1373 (by decide) ?_
    exact kk H locs ls (lv_sub hl [2, 3, 4, 5, 6, 7] rfl) hI
  refine lv_aload_n hx hb dL_law_1361 rfl (lv_at hl 5 rfl) ?_
  refine lv_iconst (v := 0) hx hb dL_law_1362 (by decide) ?_
  refine l_lald hx hb hI dL_law_1363 ?_
  refine lv_iload hx hb dL_law_1364 (lv_at hl 0 rfl) ?_
  refine lv_i2l (v := r.toInt64) hx hb dL_law_1366 rfl ?_
  refine W.lcmp hx hb dL_law_1367 ?_
  refine lv_if_eq (tgt := 1373) hx hb dL_law_1368 (by decide) (fun _ => ?_) (fun c3 => absurd (by rw [hag c2]; exact lg_cmp0 _) c3)
  refine lv_goto (tgt := 2998) hx hb dL_law_1373 (by decide) ?_
  exact kk H locs ls (lv_sub hl [2, 3, 4, 5, 6, 7] rfl) hI
set_option maxRecDepth 100000 in
theorem l_c21 {p : Program} {l : Launch} {e : Env} {R : Room} {s : State} {m : MethodId} {args : Array Value} {below : List Frame} {meth : Method} {c : Code} {H : Heap} {locs : List Loc} {cells slots : Nat} {Q : State → Prop} {ls : Array Slot} {w : WD} {oL oD b L i0 : Nat} {xs : Nat → Int32} {cL cD : ClassId} {x : Int64} {y : UInt64} (hsf : l.stackTraces = false) (hx : p.tables.exec = Jvm.exec) (hb : c.code = cL_law) (hml : c.maxLocals = 10) (hown : s.vm.findClass "ShareVaultLaw" = some m.cls) (hR : 13 ≤ R.frames ∧ 400 ≤ R.locals ∧ cells + 2 ≤ R.cells ∧ slots + 12 ≤ R.slots) (hi : i0 + 4 < L) (hLL : L ≤ 2560) (hl : lv_has ls 10 (lLoc w b oL oD i0)) {M M1 M2 : Mem} {o : Nat ⊕ Int32} {r k : Int32} {x1 : Int64} (hI : lI w s H locs oL oD cL cD x y b L xs M) (h1 : f_X11_toldSecretByElimination M = some (o, M1)) (hres : hRes [(4, 1)] (fun v => v.toInt64) x o k x1) (h2 : f_X12_toldSecretByElimination M1 = some (r, M2)) (hth : M2 12 47 0 = k) (hag : k = 0 → x1 = r.toInt64) (kk : ∀ (H1 : Heap) (locs1 : List Loc) (ls1 : Array Slot), lv_has ls1 10 (lLoc w b oL oD i0) → lI w s H1 locs1 oL oD cL cD x1 y b L xs M2 → W p l e R s m args below meth c H1 locs1 (cells + 1) (slots + 6) Q (F0 m 2998 ls1 [])) : W p l e R s m args below meth c H locs cells slots Q (F0 m 1376 ls []) := by
  refine lv_aload_n hx hb dL_law_1376 rfl (lv_at hl 1 rfl) ?_
  refine lv_aload_n hx hb dL_law_1377 rfl (lv_at hl 3 rfl) ?_
  refine l_help (As := [.ref (w.1 12 16), .ref oL]) (rest := []) hx hb hml hown hI (h_toldSecretByElimination l w hsf H.size oL cL x M o M1 h1 k x1 hres) (l_cw (n := 2) hI.1.T (tin5 (List.mem_of_getElem? (l := tables_1_5) (i := 42) rfl)) (q1000 hI.1.T) (q1001 hI.1.T) (q0 hI.1.T) (by decide +kernel) ⟨rfl, rfl, (Nat.le_trans (Nat.le_of_ble_eq_true rfl) hR.1), (Nat.le_trans (Nat.le_of_ble_eq_true rfl) hR.2.1)⟩) rfl hl.1 (Nat.le_of_ble_eq_true rfl) dL_law_1378 ⟨Nat.le_trans (Nat.add_le_add_left (Nat.le_of_ble_eq_true rfl) _) hR.2.2.1, Nat.le_trans (Nat.add_le_add_left (Nat.le_of_ble_eq_true rfl) _) hR.2.2.2⟩ (fun H locs hI => ?_)
  refine lv_istore (lv' := [(6, .int k), (0, .ref b), (1, .ref (w.1 12 16)), (2, .ref (w.1 12 47)), (3, .ref oL), (4, .ref oD), (5, .int (Int32.ofNat i0))]) hx hb dL_law_1381 hl (by decide) rfl (fun ls hl => ?_)
  refine lv_aload_n hx hb dL_law_1383 rfl (lv_at hl 3 rfl) ?_
  refine l_callV (As := []) (rest := []) hx hb hml hown hI (c_X12_toldSecretByElimination l w H.size M1 r M2 h2) (kb_X12_toldSecretByElimination hI.1.T (q1721 hI.1.T) (Nat.le_trans (Nat.le_of_ble_eq_true rfl) hR.1) (Nat.le_trans (Nat.le_of_ble_eq_true rfl) hR.2.1)) (q1722 hI.1.T) (q1723 hI.1.T) (m_recv hI.1 (mokX (by decide) (by decide)) rfl rfl) rfl hl.1 (Nat.le_of_ble_eq_true rfl) dL_law_1384 ⟨(Nat.le_trans (Nat.add_le_add_left (Nat.le_of_ble_eq_true rfl) _) hR.2.2.1), (Nat.le_trans (Nat.add_le_add_left (Nat.le_of_ble_eq_true rfl) _) hR.2.2.2)⟩ (fun H locs hI => ?_)
  refine lv_istore (lv' := [(7, .int r), (6, .int k), (0, .ref b), (1, .ref (w.1 12 16)), (2, .ref (w.1 12 47)), (3, .ref oL), (4, .ref oD), (5, .int (Int32.ofNat i0))]) hx hb dL_law_1387 hl (by decide) rfl (fun ls hl => ?_)
  refine lv_aload_n hx hb dL_law_1389 rfl (lv_at hl 4 rfl) ?_
  refine l_callV (As := []) (rest := []) hx hb hml hown hI (c_X12_thrown l w H.size M2 (M2 12 47 0) rfl) (kb_X12_thrown hI.1.T (q1496 hI.1.T) (Nat.le_trans (Nat.le_of_ble_eq_true rfl) hR.1) (Nat.le_trans (Nat.le_of_ble_eq_true rfl) hR.2.1)) (q1497 hI.1.T) (q1498 hI.1.T) (m_recv hI.1 (mokX (by decide) (by decide)) rfl rfl) rfl hl.1 (Nat.le_of_ble_eq_true rfl) dL_law_1390 ⟨(Nat.le_trans (Nat.add_le_add_left (Nat.le_of_ble_eq_true rfl) _) hR.2.2.1), (Nat.le_trans (Nat.add_le_add_left (Nat.le_of_ble_eq_true rfl) _) hR.2.2.2)⟩ (fun H locs hI => ?_)
  refine lv_iload hx hb dL_law_1393 (lv_at hl 1 rfl) ?_
  refine lv_icmp_eq (tgt := 1400) hx hb dL_law_1395 (by decide) (fun _ => ?_) (fun c2 => absurd hth c2)
  refine lv_iload hx hb dL_law_1400 (lv_at hl 1 rfl) ?_
  refine lv_if_ne (tgt := 1417) hx hb dL_law_1402 (by decide) (fun _ => ?_) (fun c2 => ?_)
  · refine lv_goto (tgt := 2998) hx hb dL_law_1417 (by decide) ?_
    exact kk H locs ls (lv_sub hl [2, 3, 4, 5, 6, 7] rfl) hI
  refine lv_aload_n hx hb dL_law_1405 rfl (lv_at hl 5 rfl) ?_
  refine lv_iconst (v := 0) hx hb dL_law_1406 (by decide) ?_
  refine l_lald hx hb hI dL_law_1407 ?_
  refine lv_iload hx hb dL_law_1408 (lv_at hl 0 rfl) ?_
  refine lv_i2l (v := r.toInt64) hx hb dL_law_1410 rfl ?_
  refine W.lcmp hx hb dL_law_1411 ?_
  refine lv_if_eq (tgt := 1417) hx hb dL_law_1412 (by decide) (fun _ => ?_) (fun c3 => absurd (by rw [hag c2]; exact lg_cmp0 _) c3)
  refine lv_goto (tgt := 2998) hx hb dL_law_1417 (by decide) ?_
  exact kk H locs ls (lv_sub hl [2, 3, 4, 5, 6, 7] rfl) hI
set_option maxRecDepth 100000 in
theorem l_c22 {p : Program} {l : Launch} {e : Env} {R : Room} {s : State} {m : MethodId} {args : Array Value} {below : List Frame} {meth : Method} {c : Code} {H : Heap} {locs : List Loc} {cells slots : Nat} {Q : State → Prop} {ls : Array Slot} {w : WD} {oL oD b L i0 : Nat} {xs : Nat → Int32} {cL cD : ClassId} {x : Int64} {y : UInt64} (hsf : l.stackTraces = false) (hx : p.tables.exec = Jvm.exec) (hb : c.code = cL_law) (hml : c.maxLocals = 10) (hown : s.vm.findClass "ShareVaultLaw" = some m.cls) (hR : 13 ≤ R.frames ∧ 400 ≤ R.locals ∧ cells + 2 ≤ R.cells ∧ slots + 12 ≤ R.slots) (hi : i0 + 4 < L) (hLL : L ≤ 2560) (hl : lv_has ls 10 (lLoc w b oL oD i0)) {M M2 : Mem} {o : Nat ⊕ Int32} {r k : Int32} {x1 : Int64} (hI : lI w s H locs oL oD cL cD x y b L xs M) (h1 : f_X11_toldValue (xs (i0 + 1)) M = some o) (hres : hRes [(2, 1), (4, 2)] (fun v => v.toInt64) x o k x1) (h2 : f_X12_toldValue (xs (i0 + 1)) M = some (r, M2)) (hth : M2 12 47 0 = k) (hag : k = 0 → x1 = r.toInt64) (kk : ∀ (H1 : Heap) (locs1 : List Loc) (ls1 : Array Slot), lv_has ls1 10 (lLoc w b oL oD i0) → lI w s H1 locs1 oL oD cL cD x1 y b L xs M2 → W p l e R s m args below meth c H1 locs1 (cells + 1) (slots + 6) Q (F0 m 2998 ls1 [])) : W p l e R s m args below meth c H locs cells slots Q (F0 m 1420 ls []) := by
  refine lv_aload_n hx hb dL_law_1420 rfl (lv_at hl 1 rfl) ?_
  refine l_arg (j := 1) hx hb hI hi hLL (by decide) (lv_at hl 0 rfl) (lv_at hl 5 rfl) dL_law_1421 (by decide) dL_law_1422 dL_law_1424 dL_law_1425 dL_law_1426 ?_
  refine lv_aload_n hx hb dL_law_1427 rfl (lv_at hl 3 rfl) ?_
  refine l_help (As := [.ref (w.1 12 16), .int (xs (i0 + 1)), .ref oL]) (rest := []) hx hb hml hown hI (h_toldValue l w hsf H.size oL cL x (xs (i0 + 1)) M o h1 k x1 hres) (l_cw (n := 3) hI.1.T (tin5 (List.mem_of_getElem? (l := tables_1_5) (i := 49) rfl)) (q1007 hI.1.T) (q1008 hI.1.T) (q0 hI.1.T) (by decide +kernel) ⟨rfl, rfl, (Nat.le_trans (Nat.le_of_ble_eq_true rfl) hR.1), (Nat.le_trans (Nat.le_of_ble_eq_true rfl) hR.2.1)⟩) rfl hl.1 (Nat.le_of_ble_eq_true rfl) dL_law_1428 ⟨Nat.le_trans (Nat.add_le_add_left (Nat.le_of_ble_eq_true rfl) _) hR.2.2.1, Nat.le_trans (Nat.add_le_add_left (Nat.le_of_ble_eq_true rfl) _) hR.2.2.2⟩ (fun H locs hI => ?_)
  refine lv_istore (lv' := [(6, .int k), (0, .ref b), (1, .ref (w.1 12 16)), (2, .ref (w.1 12 47)), (3, .ref oL), (4, .ref oD), (5, .int (Int32.ofNat i0))]) hx hb dL_law_1431 hl (by decide) rfl (fun ls hl => ?_)
  refine lv_aload_n hx hb dL_law_1433 rfl (lv_at hl 3 rfl) ?_
  refine l_arg (j := 1) hx hb hI hi hLL (by decide) (lv_at hl 1 rfl) (lv_at hl 6 rfl) dL_law_1434 (by decide) dL_law_1435 dL_law_1437 dL_law_1438 dL_law_1439 ?_
  refine l_callV (As := [.int (xs (i0 + 1))]) (rest := []) hx hb hml hown hI (c_X12_toldValue l w H.size (xs (i0 + 1)) M r M2 h2) (kb_X12_toldValue hI.1.T (q1726 hI.1.T) (Nat.le_trans (Nat.le_of_ble_eq_true rfl) hR.1) (Nat.le_trans (Nat.le_of_ble_eq_true rfl) hR.2.1)) (q1727 hI.1.T) (q1728 hI.1.T) (m_recv hI.1 (mokX (by decide) (by decide)) rfl rfl) rfl hl.1 (Nat.le_of_ble_eq_true rfl) dL_law_1440 ⟨(Nat.le_trans (Nat.add_le_add_left (Nat.le_of_ble_eq_true rfl) _) hR.2.2.1), (Nat.le_trans (Nat.add_le_add_left (Nat.le_of_ble_eq_true rfl) _) hR.2.2.2)⟩ (fun H locs hI => ?_)
  refine lv_istore (lv' := [(7, .int r), (6, .int k), (0, .ref b), (1, .ref (w.1 12 16)), (2, .ref (w.1 12 47)), (3, .ref oL), (4, .ref oD), (5, .int (Int32.ofNat i0))]) hx hb dL_law_1443 hl (by decide) rfl (fun ls hl => ?_)
  refine lv_aload_n hx hb dL_law_1445 rfl (lv_at hl 4 rfl) ?_
  refine l_callV (As := []) (rest := []) hx hb hml hown hI (c_X12_thrown l w H.size M2 (M2 12 47 0) rfl) (kb_X12_thrown hI.1.T (q1496 hI.1.T) (Nat.le_trans (Nat.le_of_ble_eq_true rfl) hR.1) (Nat.le_trans (Nat.le_of_ble_eq_true rfl) hR.2.1)) (q1497 hI.1.T) (q1498 hI.1.T) (m_recv hI.1 (mokX (by decide) (by decide)) rfl rfl) rfl hl.1 (Nat.le_of_ble_eq_true rfl) dL_law_1446 ⟨(Nat.le_trans (Nat.add_le_add_left (Nat.le_of_ble_eq_true rfl) _) hR.2.2.1), (Nat.le_trans (Nat.add_le_add_left (Nat.le_of_ble_eq_true rfl) _) hR.2.2.2)⟩ (fun H locs hI => ?_)
  refine lv_iload hx hb dL_law_1449 (lv_at hl 1 rfl) ?_
  refine lv_icmp_eq (tgt := 1456) hx hb dL_law_1451 (by decide) (fun _ => ?_) (fun c2 => absurd hth c2)
  refine lv_iload hx hb dL_law_1456 (lv_at hl 1 rfl) ?_
  refine lv_if_ne (tgt := 1473) hx hb dL_law_1458 (by decide) (fun _ => ?_) (fun c2 => ?_)
  · refine lv_goto (tgt := 2998) hx hb dL_law_1473 (by decide) ?_
    exact kk H locs ls (lv_sub hl [2, 3, 4, 5, 6, 7] rfl) hI
  refine lv_aload_n hx hb dL_law_1461 rfl (lv_at hl 5 rfl) ?_
  refine lv_iconst (v := 0) hx hb dL_law_1462 (by decide) ?_
  refine l_lald hx hb hI dL_law_1463 ?_
  refine lv_iload hx hb dL_law_1464 (lv_at hl 0 rfl) ?_
  refine lv_i2l (v := r.toInt64) hx hb dL_law_1466 rfl ?_
  refine W.lcmp hx hb dL_law_1467 ?_
  refine lv_if_eq (tgt := 1473) hx hb dL_law_1468 (by decide) (fun _ => ?_) (fun c3 => absurd (by rw [hag c2]; exact lg_cmp0 _) c3)
  refine lv_goto (tgt := 2998) hx hb dL_law_1473 (by decide) ?_
  exact kk H locs ls (lv_sub hl [2, 3, 4, 5, 6, 7] rfl) hI
set_option maxRecDepth 100000 in
theorem l_c23 {p : Program} {l : Launch} {e : Env} {R : Room} {s : State} {m : MethodId} {args : Array Value} {below : List Frame} {meth : Method} {c : Code} {H : Heap} {locs : List Loc} {cells slots : Nat} {Q : State → Prop} {ls : Array Slot} {w : WD} {oL oD b L i0 : Nat} {xs : Nat → Int32} {cL cD : ClassId} {x : Int64} {y : UInt64} (hsf : l.stackTraces = false) (hx : p.tables.exec = Jvm.exec) (hb : c.code = cL_law) (hml : c.maxLocals = 10) (hown : s.vm.findClass "ShareVaultLaw" = some m.cls) (hR : 13 ≤ R.frames ∧ 400 ≤ R.locals ∧ cells + 2 ≤ R.cells ∧ slots + 12 ≤ R.slots) (hi : i0 + 4 < L) (hLL : L ≤ 2560) (hl : lv_has ls 10 (lLoc w b oL oD i0)) {M M2 : Mem} {o : Nat ⊕ Int32} {r k : Int32} {x1 : Int64} (hI : lI w s H locs oL oD cL cD x y b L xs M) (h1 : f_X11_doAgree M = some o) (hres : hRes [(4, 1)] (fun v => if v = 0 then 0 else 1) x o k x1) (h2 : f_X12_doAgree M = some (r, M2)) (hth : M2 12 47 0 = k) (hag : k = 0 → x1 = (if r = 0 then (0 : Int64) else 1)) (kk : ∀ (H1 : Heap) (locs1 : List Loc) (ls1 : Array Slot), lv_has ls1 10 (lLoc w b oL oD i0) → lI w s H1 locs1 oL oD cL cD x1 y b L xs M2 → W p l e R s m args below meth c H1 locs1 (cells + 1) (slots + 6) Q (F0 m 2998 ls1 [])) : W p l e R s m args below meth c H locs cells slots Q (F0 m 1476 ls []) := by
  refine lv_aload_n hx hb dL_law_1476 rfl (lv_at hl 1 rfl) ?_
  refine lv_aload_n hx hb dL_law_1477 rfl (lv_at hl 3 rfl) ?_
  refine l_help (As := [.ref (w.1 12 16), .ref oL]) (rest := []) hx hb hml hown hI (h_doAgree l w hsf H.size oL cL x M o h1 k x1 hres) (l_cw (n := 2) hI.1.T (tin5 (List.mem_of_getElem? (l := tables_1_5) (i := 57) rfl)) (q1015 hI.1.T) (q1016 hI.1.T) (q0 hI.1.T) (by decide +kernel) ⟨rfl, rfl, (Nat.le_trans (Nat.le_of_ble_eq_true rfl) hR.1), (Nat.le_trans (Nat.le_of_ble_eq_true rfl) hR.2.1)⟩) rfl hl.1 (Nat.le_of_ble_eq_true rfl) dL_law_1478 ⟨Nat.le_trans (Nat.add_le_add_left (Nat.le_of_ble_eq_true rfl) _) hR.2.2.1, Nat.le_trans (Nat.add_le_add_left (Nat.le_of_ble_eq_true rfl) _) hR.2.2.2⟩ (fun H locs hI => ?_)
  refine lv_istore (lv' := [(6, .int k), (0, .ref b), (1, .ref (w.1 12 16)), (2, .ref (w.1 12 47)), (3, .ref oL), (4, .ref oD), (5, .int (Int32.ofNat i0))]) hx hb dL_law_1481 hl (by decide) rfl (fun ls hl => ?_)
  refine lv_aload_n hx hb dL_law_1483 rfl (lv_at hl 3 rfl) ?_
  refine l_callV (As := []) (rest := []) hx hb hml hown hI (c_X12_doAgree l w H.size M r M2 h2) (kb_X12_doAgree hI.1.T (q1730 hI.1.T) (Nat.le_trans (Nat.le_of_ble_eq_true rfl) hR.1) (Nat.le_trans (Nat.le_of_ble_eq_true rfl) hR.2.1)) (q1731 hI.1.T) (q1732 hI.1.T) (m_recv hI.1 (mokX (by decide) (by decide)) rfl rfl) rfl hl.1 (Nat.le_of_ble_eq_true rfl) dL_law_1484 ⟨(Nat.le_trans (Nat.add_le_add_left (Nat.le_of_ble_eq_true rfl) _) hR.2.2.1), (Nat.le_trans (Nat.add_le_add_left (Nat.le_of_ble_eq_true rfl) _) hR.2.2.2)⟩ (fun H locs hI => ?_)
  refine lv_istore (lv' := [(7, .int r), (6, .int k), (0, .ref b), (1, .ref (w.1 12 16)), (2, .ref (w.1 12 47)), (3, .ref oL), (4, .ref oD), (5, .int (Int32.ofNat i0))]) hx hb dL_law_1487 hl (by decide) rfl (fun ls hl => ?_)
  refine lv_aload_n hx hb dL_law_1489 rfl (lv_at hl 4 rfl) ?_
  refine l_callV (As := []) (rest := []) hx hb hml hown hI (c_X12_thrown l w H.size M2 (M2 12 47 0) rfl) (kb_X12_thrown hI.1.T (q1496 hI.1.T) (Nat.le_trans (Nat.le_of_ble_eq_true rfl) hR.1) (Nat.le_trans (Nat.le_of_ble_eq_true rfl) hR.2.1)) (q1497 hI.1.T) (q1498 hI.1.T) (m_recv hI.1 (mokX (by decide) (by decide)) rfl rfl) rfl hl.1 (Nat.le_of_ble_eq_true rfl) dL_law_1490 ⟨(Nat.le_trans (Nat.add_le_add_left (Nat.le_of_ble_eq_true rfl) _) hR.2.2.1), (Nat.le_trans (Nat.add_le_add_left (Nat.le_of_ble_eq_true rfl) _) hR.2.2.2)⟩ (fun H locs hI => ?_)
  refine lv_iload hx hb dL_law_1493 (lv_at hl 1 rfl) ?_
  refine lv_icmp_eq (tgt := 1500) hx hb dL_law_1495 (by decide) (fun _ => ?_) (fun c2 => absurd hth c2)
  refine lv_iload hx hb dL_law_1500 (lv_at hl 1 rfl) ?_
  refine lv_if_ne (tgt := 1524) hx hb dL_law_1502 (by decide) (fun _ => ?_) (fun c2 => ?_)
  · refine lv_goto (tgt := 2998) hx hb dL_law_1524 (by decide) ?_
    exact kk H locs ls (lv_sub hl [2, 3, 4, 5, 6, 7] rfl) hI
  refine lv_aload_n hx hb dL_law_1505 rfl (lv_at hl 5 rfl) ?_
  refine lv_iconst (v := 0) hx hb dL_law_1506 (by decide) ?_
  refine l_lald hx hb hI dL_law_1507 ?_
  refine lv_iload hx hb dL_law_1508 (lv_at hl 0 rfl) ?_
  refine l_lbool hx hb dL_law_1510 dL_law_1513 dL_law_1514 dL_law_1517 ?_
  refine W.lcmp hx hb dL_law_1518 ?_
  refine lv_if_eq (tgt := 1524) hx hb dL_law_1519 (by decide) (fun _ => ?_) (fun c3 => absurd (by rw [hag c2]; exact lg_cmp0 _) c3)
  refine lv_goto (tgt := 2998) hx hb dL_law_1524 (by decide) ?_
  exact kk H locs ls (lv_sub hl [2, 3, 4, 5, 6, 7] rfl) hI
set_option maxRecDepth 100000 in
theorem l_c24 {p : Program} {l : Launch} {e : Env} {R : Room} {s : State} {m : MethodId} {args : Array Value} {below : List Frame} {meth : Method} {c : Code} {H : Heap} {locs : List Loc} {cells slots : Nat} {Q : State → Prop} {ls : Array Slot} {w : WD} {oL oD b L i0 : Nat} {xs : Nat → Int32} {cL cD : ClassId} {x : Int64} {y : UInt64} (hsf : l.stackTraces = false) (hx : p.tables.exec = Jvm.exec) (hb : c.code = cL_law) (hml : c.maxLocals = 10) (hown : s.vm.findClass "ShareVaultLaw" = some m.cls) (hR : 13 ≤ R.frames ∧ 400 ≤ R.locals ∧ cells + 2 ≤ R.cells ∧ slots + 12 ≤ R.slots) (hi : i0 + 4 < L) (hLL : L ≤ 2560) (hl : lv_has ls 10 (lLoc w b oL oD i0)) {M M1 M2 : Mem} {o : Nat ⊕ Int32} {r k : Int32} {x1 : Int64} (hI : lI w s H locs oL oD cL cD x y b L xs M) (h1 : f_X11_mostAgreeing M = some (o, M1)) (hres : hRes [(4, 1)] (fun v => v.toInt64) x o k x1) (h2 : f_X12_mostAgreeing M1 = some (r, M2)) (hth : M2 12 47 0 = k) (hag : k = 0 → x1 = r.toInt64) (kk : ∀ (H1 : Heap) (locs1 : List Loc) (ls1 : Array Slot), lv_has ls1 10 (lLoc w b oL oD i0) → lI w s H1 locs1 oL oD cL cD x1 y b L xs M2 → W p l e R s m args below meth c H1 locs1 (cells + 1) (slots + 6) Q (F0 m 2998 ls1 [])) : W p l e R s m args below meth c H locs cells slots Q (F0 m 1527 ls []) := by
  refine lv_aload_n hx hb dL_law_1527 rfl (lv_at hl 1 rfl) ?_
  refine lv_aload_n hx hb dL_law_1528 rfl (lv_at hl 3 rfl) ?_
  refine l_help (As := [.ref (w.1 12 16), .ref oL]) (rest := []) hx hb hml hown hI (h_mostAgreeing l w hsf H.size oL cL x M o M1 h1 k x1 hres) (l_cw (n := 2) hI.1.T (tin5 (List.mem_of_getElem? (l := tables_1_5) (i := 68) rfl)) (q1026 hI.1.T) (q1027 hI.1.T) (q0 hI.1.T) (by decide +kernel) ⟨rfl, rfl, (Nat.le_trans (Nat.le_of_ble_eq_true rfl) hR.1), (Nat.le_trans (Nat.le_of_ble_eq_true rfl) hR.2.1)⟩) rfl hl.1 (Nat.le_of_ble_eq_true rfl) dL_law_1529 ⟨Nat.le_trans (Nat.add_le_add_left (Nat.le_of_ble_eq_true rfl) _) hR.2.2.1, Nat.le_trans (Nat.add_le_add_left (Nat.le_of_ble_eq_true rfl) _) hR.2.2.2⟩ (fun H locs hI => ?_)
  refine lv_istore (lv' := [(6, .int k), (0, .ref b), (1, .ref (w.1 12 16)), (2, .ref (w.1 12 47)), (3, .ref oL), (4, .ref oD), (5, .int (Int32.ofNat i0))]) hx hb dL_law_1532 hl (by decide) rfl (fun ls hl => ?_)
  refine lv_aload_n hx hb dL_law_1534 rfl (lv_at hl 3 rfl) ?_
  refine l_callV (As := []) (rest := []) hx hb hml hown hI (c_X12_mostAgreeing l w H.size M1 r M2 h2) (kb_X12_mostAgreeing hI.1.T (q1734 hI.1.T) (Nat.le_trans (Nat.le_of_ble_eq_true rfl) hR.1) (Nat.le_trans (Nat.le_of_ble_eq_true rfl) hR.2.1)) (q1735 hI.1.T) (q1736 hI.1.T) (m_recv hI.1 (mokX (by decide) (by decide)) rfl rfl) rfl hl.1 (Nat.le_of_ble_eq_true rfl) dL_law_1535 ⟨(Nat.le_trans (Nat.add_le_add_left (Nat.le_of_ble_eq_true rfl) _) hR.2.2.1), (Nat.le_trans (Nat.add_le_add_left (Nat.le_of_ble_eq_true rfl) _) hR.2.2.2)⟩ (fun H locs hI => ?_)
  refine lv_istore (lv' := [(7, .int r), (6, .int k), (0, .ref b), (1, .ref (w.1 12 16)), (2, .ref (w.1 12 47)), (3, .ref oL), (4, .ref oD), (5, .int (Int32.ofNat i0))]) hx hb dL_law_1538 hl (by decide) rfl (fun ls hl => ?_)
  refine lv_aload_n hx hb dL_law_1540 rfl (lv_at hl 4 rfl) ?_
  refine l_callV (As := []) (rest := []) hx hb hml hown hI (c_X12_thrown l w H.size M2 (M2 12 47 0) rfl) (kb_X12_thrown hI.1.T (q1496 hI.1.T) (Nat.le_trans (Nat.le_of_ble_eq_true rfl) hR.1) (Nat.le_trans (Nat.le_of_ble_eq_true rfl) hR.2.1)) (q1497 hI.1.T) (q1498 hI.1.T) (m_recv hI.1 (mokX (by decide) (by decide)) rfl rfl) rfl hl.1 (Nat.le_of_ble_eq_true rfl) dL_law_1541 ⟨(Nat.le_trans (Nat.add_le_add_left (Nat.le_of_ble_eq_true rfl) _) hR.2.2.1), (Nat.le_trans (Nat.add_le_add_left (Nat.le_of_ble_eq_true rfl) _) hR.2.2.2)⟩ (fun H locs hI => ?_)
  refine lv_iload hx hb dL_law_1544 (lv_at hl 1 rfl) ?_
  refine lv_icmp_eq (tgt := 1551) hx hb dL_law_1546 (by decide) (fun _ => ?_) (fun c2 => absurd hth c2)
  refine lv_iload hx hb dL_law_1551 (lv_at hl 1 rfl) ?_
  refine lv_if_ne (tgt := 1568) hx hb dL_law_1553 (by decide) (fun _ => ?_) (fun c2 => ?_)
  · refine lv_goto (tgt := 2998) hx hb dL_law_1568 (by decide) ?_
    exact kk H locs ls (lv_sub hl [2, 3, 4, 5, 6, 7] rfl) hI
  refine lv_aload_n hx hb dL_law_1556 rfl (lv_at hl 5 rfl) ?_
  refine lv_iconst (v := 0) hx hb dL_law_1557 (by decide) ?_
  refine l_lald hx hb hI dL_law_1558 ?_
  refine lv_iload hx hb dL_law_1559 (lv_at hl 0 rfl) ?_
  refine lv_i2l (v := r.toInt64) hx hb dL_law_1561 rfl ?_
  refine W.lcmp hx hb dL_law_1562 ?_
  refine lv_if_eq (tgt := 1568) hx hb dL_law_1563 (by decide) (fun _ => ?_) (fun c3 => absurd (by rw [hag c2]; exact lg_cmp0 _) c3)
  refine lv_goto (tgt := 2998) hx hb dL_law_1568 (by decide) ?_
  exact kk H locs ls (lv_sub hl [2, 3, 4, 5, 6, 7] rfl) hI
set_option maxRecDepth 100000 in
theorem l_c25 {p : Program} {l : Launch} {e : Env} {R : Room} {s : State} {m : MethodId} {args : Array Value} {below : List Frame} {meth : Method} {c : Code} {H : Heap} {locs : List Loc} {cells slots : Nat} {Q : State → Prop} {ls : Array Slot} {w : WD} {oL oD b L i0 : Nat} {xs : Nat → Int32} {cL cD : ClassId} {x : Int64} {y : UInt64} (hsf : l.stackTraces = false) (hx : p.tables.exec = Jvm.exec) (hb : c.code = cL_law) (hml : c.maxLocals = 10) (hown : s.vm.findClass "ShareVaultLaw" = some m.cls) (hR : 13 ≤ R.frames ∧ 400 ≤ R.locals ∧ cells + 2 ≤ R.cells ∧ slots + 12 ≤ R.slots) (hi : i0 + 4 < L) (hLL : L ≤ 2560) (hl : lv_has ls 10 (lLoc w b oL oD i0)) {M M1 M2 : Mem} {o : Nat ⊕ Int32} {r k : Int32} {x1 : Int64} (hI : lI w s H locs oL oD cL cD x y b L xs M) (h1 : f_X11_mostAgreeingBySets M = some (o, M1)) (hres : hRes [(4, 1)] (fun v => v.toInt64) x o k x1) (h2 : f_X12_mostAgreeingBySets M1 = some (r, M2)) (hth : M2 12 47 0 = k) (hag : k = 0 → x1 = r.toInt64) (kk : ∀ (H1 : Heap) (locs1 : List Loc) (ls1 : Array Slot), lv_has ls1 10 (lLoc w b oL oD i0) → lI w s H1 locs1 oL oD cL cD x1 y b L xs M2 → W p l e R s m args below meth c H1 locs1 (cells + 1) (slots + 6) Q (F0 m 2998 ls1 [])) : W p l e R s m args below meth c H locs cells slots Q (F0 m 1571 ls []) := by
  refine lv_aload_n hx hb dL_law_1571 rfl (lv_at hl 1 rfl) ?_
  refine lv_aload_n hx hb dL_law_1572 rfl (lv_at hl 3 rfl) ?_
  refine l_help (As := [.ref (w.1 12 16), .ref oL]) (rest := []) hx hb hml hown hI (h_mostAgreeingBySets l w hsf H.size oL cL x M o M1 h1 k x1 hres) (l_cw (n := 2) hI.1.T (tin5 (List.mem_of_getElem? (l := tables_1_5) (i := 75) rfl)) (q1033 hI.1.T) (q1034 hI.1.T) (q0 hI.1.T) (by decide +kernel) ⟨rfl, rfl, (Nat.le_trans (Nat.le_of_ble_eq_true rfl) hR.1), (Nat.le_trans (Nat.le_of_ble_eq_true rfl) hR.2.1)⟩) rfl hl.1 (Nat.le_of_ble_eq_true rfl) dL_law_1573 ⟨Nat.le_trans (Nat.add_le_add_left (Nat.le_of_ble_eq_true rfl) _) hR.2.2.1, Nat.le_trans (Nat.add_le_add_left (Nat.le_of_ble_eq_true rfl) _) hR.2.2.2⟩ (fun H locs hI => ?_)
  refine lv_istore (lv' := [(6, .int k), (0, .ref b), (1, .ref (w.1 12 16)), (2, .ref (w.1 12 47)), (3, .ref oL), (4, .ref oD), (5, .int (Int32.ofNat i0))]) hx hb dL_law_1576 hl (by decide) rfl (fun ls hl => ?_)
  refine lv_aload_n hx hb dL_law_1578 rfl (lv_at hl 3 rfl) ?_
  refine l_callV (As := []) (rest := []) hx hb hml hown hI (c_X12_mostAgreeingBySets l w H.size M1 r M2 h2) (kb_X12_mostAgreeingBySets hI.1.T (q1742 hI.1.T) (Nat.le_trans (Nat.le_of_ble_eq_true rfl) hR.1) (Nat.le_trans (Nat.le_of_ble_eq_true rfl) hR.2.1)) (q1743 hI.1.T) (q1744 hI.1.T) (m_recv hI.1 (mokX (by decide) (by decide)) rfl rfl) rfl hl.1 (Nat.le_of_ble_eq_true rfl) dL_law_1579 ⟨(Nat.le_trans (Nat.add_le_add_left (Nat.le_of_ble_eq_true rfl) _) hR.2.2.1), (Nat.le_trans (Nat.add_le_add_left (Nat.le_of_ble_eq_true rfl) _) hR.2.2.2)⟩ (fun H locs hI => ?_)
  refine lv_istore (lv' := [(7, .int r), (6, .int k), (0, .ref b), (1, .ref (w.1 12 16)), (2, .ref (w.1 12 47)), (3, .ref oL), (4, .ref oD), (5, .int (Int32.ofNat i0))]) hx hb dL_law_1582 hl (by decide) rfl (fun ls hl => ?_)
  refine lv_aload_n hx hb dL_law_1584 rfl (lv_at hl 4 rfl) ?_
  refine l_callV (As := []) (rest := []) hx hb hml hown hI (c_X12_thrown l w H.size M2 (M2 12 47 0) rfl) (kb_X12_thrown hI.1.T (q1496 hI.1.T) (Nat.le_trans (Nat.le_of_ble_eq_true rfl) hR.1) (Nat.le_trans (Nat.le_of_ble_eq_true rfl) hR.2.1)) (q1497 hI.1.T) (q1498 hI.1.T) (m_recv hI.1 (mokX (by decide) (by decide)) rfl rfl) rfl hl.1 (Nat.le_of_ble_eq_true rfl) dL_law_1585 ⟨(Nat.le_trans (Nat.add_le_add_left (Nat.le_of_ble_eq_true rfl) _) hR.2.2.1), (Nat.le_trans (Nat.add_le_add_left (Nat.le_of_ble_eq_true rfl) _) hR.2.2.2)⟩ (fun H locs hI => ?_)
  refine lv_iload hx hb dL_law_1588 (lv_at hl 1 rfl) ?_
  refine lv_icmp_eq (tgt := 1595) hx hb dL_law_1590 (by decide) (fun _ => ?_) (fun c2 => absurd hth c2)
  refine lv_iload hx hb dL_law_1595 (lv_at hl 1 rfl) ?_
  refine lv_if_ne (tgt := 1612) hx hb dL_law_1597 (by decide) (fun _ => ?_) (fun c2 => ?_)
  · refine lv_goto (tgt := 2998) hx hb dL_law_1612 (by decide) ?_
    exact kk H locs ls (lv_sub hl [2, 3, 4, 5, 6, 7] rfl) hI
  refine lv_aload_n hx hb dL_law_1600 rfl (lv_at hl 5 rfl) ?_
  refine lv_iconst (v := 0) hx hb dL_law_1601 (by decide) ?_
  refine l_lald hx hb hI dL_law_1602 ?_
  refine lv_iload hx hb dL_law_1603 (lv_at hl 0 rfl) ?_
  refine lv_i2l (v := r.toInt64) hx hb dL_law_1605 rfl ?_
  refine W.lcmp hx hb dL_law_1606 ?_
  refine lv_if_eq (tgt := 1612) hx hb dL_law_1607 (by decide) (fun _ => ?_) (fun c3 => absurd (by rw [hag c2]; exact lg_cmp0 _) c3)
  refine lv_goto (tgt := 2998) hx hb dL_law_1612 (by decide) ?_
  exact kk H locs ls (lv_sub hl [2, 3, 4, 5, 6, 7] rfl) hI
set_option maxRecDepth 100000 in
theorem l_c26 {p : Program} {l : Launch} {e : Env} {R : Room} {s : State} {m : MethodId} {args : Array Value} {below : List Frame} {meth : Method} {c : Code} {H : Heap} {locs : List Loc} {cells slots : Nat} {Q : State → Prop} {ls : Array Slot} {w : WD} {oL oD b L i0 : Nat} {xs : Nat → Int32} {cL cD : ClassId} {x : Int64} {y : UInt64} (hsf : l.stackTraces = false) (hx : p.tables.exec = Jvm.exec) (hb : c.code = cL_law) (hml : c.maxLocals = 10) (hown : s.vm.findClass "ShareVaultLaw" = some m.cls) (hR : 13 ≤ R.frames ∧ 400 ≤ R.locals ∧ cells + 2 ≤ R.cells ∧ slots + 12 ≤ R.slots) (hi : i0 + 4 < L) (hLL : L ≤ 2560) (hl : lv_has ls 10 (lLoc w b oL oD i0)) {M M2 : Mem} {r : Int32} (hI : lI w s H locs oL oD cL cD x y b L xs M) (h1 : f_X11_isOpen M = some r) (h2 : f_X12_isOpen M = some (r, M2)) (kk : ∀ (H1 : Heap) (locs1 : List Loc), lI w s H1 locs1 oL oD cL cD x y b L xs M2 → W p l e R s m args below meth c H1 locs1 cells slots Q (F0 m 2998 ls [])) : W p l e R s m args below meth c H locs cells slots Q (F0 m 1615 ls []) := by
  refine lv_aload_n hx hb dL_law_1615 rfl (lv_at hl 1 rfl) ?_
  refine l_callV (As := []) (rest := []) hx hb hml hown hI (c_X11_isOpen l w H.size M r h1) (kb_X11_isOpen hI.1.T (q346 hI.1.T) (Nat.le_trans (Nat.le_of_ble_eq_true rfl) hR.1) (Nat.le_trans (Nat.le_of_ble_eq_true rfl) hR.2.1)) (q347 hI.1.T) (q348 hI.1.T) (m_recv hI.1 (mokX (by decide) (by decide)) rfl rfl) rfl hl.1 (Nat.le_of_ble_eq_true rfl) dL_law_1616 ⟨(Nat.le_trans (Nat.le_add_right _ _) hR.2.2.1), (Nat.le_trans (Nat.le_add_right _ _) hR.2.2.2)⟩ (fun H locs hI => ?_)
  refine lv_aload_n hx hb dL_law_1619 rfl (lv_at hl 2 rfl) ?_
  refine l_callV (As := []) (rest := [.int r]) hx hb hml hown hI (c_X12_isOpen l w H.size M r M2 h2) (kb_X12_isOpen hI.1.T (q1747 hI.1.T) (Nat.le_trans (Nat.le_of_ble_eq_true rfl) hR.1) (Nat.le_trans (Nat.le_of_ble_eq_true rfl) hR.2.1)) (q1748 hI.1.T) (q1749 hI.1.T) (m_recv hI.1 (mokX (by decide) (by decide)) rfl rfl) rfl hl.1 (Nat.le_of_ble_eq_true rfl) dL_law_1620 ⟨(Nat.le_trans (Nat.le_add_right _ _) hR.2.2.1), (Nat.le_trans (Nat.le_add_right _ _) hR.2.2.2)⟩ (fun H locs hI => ?_)
  refine lv_icmp_eq (tgt := 2998) hx hb dL_law_1623 (by decide) (fun _ => ?_) (fun c2 => absurd rfl c2)
  exact kk H locs hI
set_option maxRecDepth 100000 in
theorem l_c27 {p : Program} {l : Launch} {e : Env} {R : Room} {s : State} {m : MethodId} {args : Array Value} {below : List Frame} {meth : Method} {c : Code} {H : Heap} {locs : List Loc} {cells slots : Nat} {Q : State → Prop} {ls : Array Slot} {w : WD} {oL oD b L i0 : Nat} {xs : Nat → Int32} {cL cD : ClassId} {x : Int64} {y : UInt64} (hsf : l.stackTraces = false) (hx : p.tables.exec = Jvm.exec) (hb : c.code = cL_law) (hml : c.maxLocals = 10) (hown : s.vm.findClass "ShareVaultLaw" = some m.cls) (hR : 13 ≤ R.frames ∧ 400 ≤ R.locals ∧ cells + 2 ≤ R.cells ∧ slots + 12 ≤ R.slots) (hi : i0 + 4 < L) (hLL : L ≤ 2560) (hl : lv_has ls 10 (lLoc w b oL oD i0)) {M M2 : Mem} {r : Int32} (hI : lI w s H locs oL oD cL cD x y b L xs M) (h1 : f_X11_lockedHours M = some r) (h2 : f_X12_lockedHours M = some (r, M2)) (kk : ∀ (H1 : Heap) (locs1 : List Loc), lI w s H1 locs1 oL oD cL cD x y b L xs M2 → W p l e R s m args below meth c H1 locs1 cells slots Q (F0 m 2998 ls [])) : W p l e R s m args below meth c H locs cells slots Q (F0 m 1628 ls []) := by
  refine lv_aload_n hx hb dL_law_1628 rfl (lv_at hl 1 rfl) ?_
  refine l_callV (As := []) (rest := []) hx hb hml hown hI (c_X11_lockedHours l w H.size M r h1) (kb_X11_lockedHours hI.1.T (q350 hI.1.T) (Nat.le_trans (Nat.le_of_ble_eq_true rfl) hR.1) (Nat.le_trans (Nat.le_of_ble_eq_true rfl) hR.2.1)) (q351 hI.1.T) (q352 hI.1.T) (m_recv hI.1 (mokX (by decide) (by decide)) rfl rfl) rfl hl.1 (Nat.le_of_ble_eq_true rfl) dL_law_1629 ⟨(Nat.le_trans (Nat.le_add_right _ _) hR.2.2.1), (Nat.le_trans (Nat.le_add_right _ _) hR.2.2.2)⟩ (fun H locs hI => ?_)
  refine lv_aload_n hx hb dL_law_1632 rfl (lv_at hl 2 rfl) ?_
  refine l_callV (As := []) (rest := [.int r]) hx hb hml hown hI (c_X12_lockedHours l w H.size M r M2 h2) (kb_X12_lockedHours hI.1.T (q1751 hI.1.T) (Nat.le_trans (Nat.le_of_ble_eq_true rfl) hR.1) (Nat.le_trans (Nat.le_of_ble_eq_true rfl) hR.2.1)) (q1752 hI.1.T) (q1753 hI.1.T) (m_recv hI.1 (mokX (by decide) (by decide)) rfl rfl) rfl hl.1 (Nat.le_of_ble_eq_true rfl) dL_law_1633 ⟨(Nat.le_trans (Nat.le_add_right _ _) hR.2.2.1), (Nat.le_trans (Nat.le_add_right _ _) hR.2.2.2)⟩ (fun H locs hI => ?_)
  refine lv_icmp_eq (tgt := 2998) hx hb dL_law_1636 (by decide) (fun _ => ?_) (fun c2 => absurd rfl c2)
  exact kk H locs hI
set_option maxRecDepth 100000 in
theorem l_c28 {p : Program} {l : Launch} {e : Env} {R : Room} {s : State} {m : MethodId} {args : Array Value} {below : List Frame} {meth : Method} {c : Code} {H : Heap} {locs : List Loc} {cells slots : Nat} {Q : State → Prop} {ls : Array Slot} {w : WD} {oL oD b L i0 : Nat} {xs : Nat → Int32} {cL cD : ClassId} {x : Int64} {y : UInt64} (hsf : l.stackTraces = false) (hx : p.tables.exec = Jvm.exec) (hb : c.code = cL_law) (hml : c.maxLocals = 10) (hown : s.vm.findClass "ShareVaultLaw" = some m.cls) (hR : 13 ≤ R.frames ∧ 400 ≤ R.locals ∧ cells + 2 ≤ R.cells ∧ slots + 12 ≤ R.slots) (hi : i0 + 4 < L) (hLL : L ≤ 2560) (hl : lv_has ls 10 (lLoc w b oL oD i0)) {M M2 : Mem} {r : Int32} (hI : lI w s H locs oL oD cL cD x y b L xs M) (h1 : f_X11_failedAttempts M = some r) (h2 : f_X12_failedAttempts M = some (r, M2)) (kk : ∀ (H1 : Heap) (locs1 : List Loc), lI w s H1 locs1 oL oD cL cD x y b L xs M2 → W p l e R s m args below meth c H1 locs1 cells slots Q (F0 m 2998 ls [])) : W p l e R s m args below meth c H locs cells slots Q (F0 m 1641 ls []) := by
  refine lv_aload_n hx hb dL_law_1641 rfl (lv_at hl 1 rfl) ?_
  refine l_callV (As := []) (rest := []) hx hb hml hown hI (c_X11_failedAttempts l w H.size M r h1) (kb_X11_failedAttempts hI.1.T (q354 hI.1.T) (Nat.le_trans (Nat.le_of_ble_eq_true rfl) hR.1) (Nat.le_trans (Nat.le_of_ble_eq_true rfl) hR.2.1)) (q355 hI.1.T) (q356 hI.1.T) (m_recv hI.1 (mokX (by decide) (by decide)) rfl rfl) rfl hl.1 (Nat.le_of_ble_eq_true rfl) dL_law_1642 ⟨(Nat.le_trans (Nat.le_add_right _ _) hR.2.2.1), (Nat.le_trans (Nat.le_add_right _ _) hR.2.2.2)⟩ (fun H locs hI => ?_)
  refine lv_aload_n hx hb dL_law_1645 rfl (lv_at hl 2 rfl) ?_
  refine l_callV (As := []) (rest := [.int r]) hx hb hml hown hI (c_X12_failedAttempts l w H.size M r M2 h2) (kb_X12_failedAttempts hI.1.T (q1755 hI.1.T) (Nat.le_trans (Nat.le_of_ble_eq_true rfl) hR.1) (Nat.le_trans (Nat.le_of_ble_eq_true rfl) hR.2.1)) (q1756 hI.1.T) (q1757 hI.1.T) (m_recv hI.1 (mokX (by decide) (by decide)) rfl rfl) rfl hl.1 (Nat.le_of_ble_eq_true rfl) dL_law_1646 ⟨(Nat.le_trans (Nat.le_add_right _ _) hR.2.2.1), (Nat.le_trans (Nat.le_add_right _ _) hR.2.2.2)⟩ (fun H locs hI => ?_)
  refine lv_icmp_eq (tgt := 2998) hx hb dL_law_1649 (by decide) (fun _ => ?_) (fun c2 => absurd rfl c2)
  exact kk H locs hI
set_option maxRecDepth 100000 in
theorem l_c29 {p : Program} {l : Launch} {e : Env} {R : Room} {s : State} {m : MethodId} {args : Array Value} {below : List Frame} {meth : Method} {c : Code} {H : Heap} {locs : List Loc} {cells slots : Nat} {Q : State → Prop} {ls : Array Slot} {w : WD} {oL oD b L i0 : Nat} {xs : Nat → Int32} {cL cD : ClassId} {x : Int64} {y : UInt64} (hsf : l.stackTraces = false) (hx : p.tables.exec = Jvm.exec) (hb : c.code = cL_law) (hml : c.maxLocals = 10) (hown : s.vm.findClass "ShareVaultLaw" = some m.cls) (hR : 13 ≤ R.frames ∧ 400 ≤ R.locals ∧ cells + 2 ≤ R.cells ∧ slots + 12 ≤ R.slots) (hi : i0 + 4 < L) (hLL : L ≤ 2560) (hl : lv_has ls 10 (lLoc w b oL oD i0)) {M M2 : Mem} {r : Int32} (hI : lI w s H locs oL oD cL cD x y b L xs M) (h1 : f_X11_guardCount M = some r) (h2 : f_X12_guardCount M = some (r, M2)) (kk : ∀ (H1 : Heap) (locs1 : List Loc), lI w s H1 locs1 oL oD cL cD x y b L xs M2 → W p l e R s m args below meth c H1 locs1 cells slots Q (F0 m 2998 ls [])) : W p l e R s m args below meth c H locs cells slots Q (F0 m 1654 ls []) := by
  refine lv_aload_n hx hb dL_law_1654 rfl (lv_at hl 1 rfl) ?_
  refine l_callV (As := []) (rest := []) hx hb hml hown hI (c_X11_guardCount l w H.size M r h1) (kb_X11_guardCount hI.1.T (q358 hI.1.T) (Nat.le_trans (Nat.le_of_ble_eq_true rfl) hR.1) (Nat.le_trans (Nat.le_of_ble_eq_true rfl) hR.2.1)) (q359 hI.1.T) (q360 hI.1.T) (m_recv hI.1 (mokX (by decide) (by decide)) rfl rfl) rfl hl.1 (Nat.le_of_ble_eq_true rfl) dL_law_1655 ⟨(Nat.le_trans (Nat.le_add_right _ _) hR.2.2.1), (Nat.le_trans (Nat.le_add_right _ _) hR.2.2.2)⟩ (fun H locs hI => ?_)
  refine lv_aload_n hx hb dL_law_1658 rfl (lv_at hl 2 rfl) ?_
  refine l_callV (As := []) (rest := [.int r]) hx hb hml hown hI (c_X12_guardCount l w H.size M r M2 h2) (kb_X12_guardCount hI.1.T (q1759 hI.1.T) (Nat.le_trans (Nat.le_of_ble_eq_true rfl) hR.1) (Nat.le_trans (Nat.le_of_ble_eq_true rfl) hR.2.1)) (q1760 hI.1.T) (q1761 hI.1.T) (m_recv hI.1 (mokX (by decide) (by decide)) rfl rfl) rfl hl.1 (Nat.le_of_ble_eq_true rfl) dL_law_1659 ⟨(Nat.le_trans (Nat.le_add_right _ _) hR.2.2.1), (Nat.le_trans (Nat.le_add_right _ _) hR.2.2.2)⟩ (fun H locs hI => ?_)
  refine lv_icmp_eq (tgt := 2998) hx hb dL_law_1662 (by decide) (fun _ => ?_) (fun c2 => absurd rfl c2)
  exact kk H locs hI
set_option maxRecDepth 100000 in
theorem l_c30 {p : Program} {l : Launch} {e : Env} {R : Room} {s : State} {m : MethodId} {args : Array Value} {below : List Frame} {meth : Method} {c : Code} {H : Heap} {locs : List Loc} {cells slots : Nat} {Q : State → Prop} {ls : Array Slot} {w : WD} {oL oD b L i0 : Nat} {xs : Nat → Int32} {cL cD : ClassId} {x : Int64} {y : UInt64} (hsf : l.stackTraces = false) (hx : p.tables.exec = Jvm.exec) (hb : c.code = cL_law) (hml : c.maxLocals = 10) (hown : s.vm.findClass "ShareVaultLaw" = some m.cls) (hR : 13 ≤ R.frames ∧ 400 ≤ R.locals ∧ cells + 2 ≤ R.cells ∧ slots + 12 ≤ R.slots) (hi : i0 + 4 < L) (hLL : L ≤ 2560) (hl : lv_has ls 10 (lLoc w b oL oD i0)) {M M2 : Mem} {o : Nat ⊕ Int32} {r k : Int32} {x1 : Int64} (hI : lI w s H locs oL oD cL cD x y b L xs M) (h1 : f_X11_zoneOf (xs (i0 + 1)) M = some o) (hres : hRes [(1, 1)] (fun v => v.toInt64) x o k x1) (h2 : f_X12_zoneOf (xs (i0 + 1)) M = some (r, M2)) (hth : M2 12 47 0 = k) (hag : k = 0 → x1 = r.toInt64) (kk : ∀ (H1 : Heap) (locs1 : List Loc) (ls1 : Array Slot), lv_has ls1 10 (lLoc w b oL oD i0) → lI w s H1 locs1 oL oD cL cD x1 y b L xs M2 → W p l e R s m args below meth c H1 locs1 (cells + 1) (slots + 6) Q (F0 m 2998 ls1 [])) : W p l e R s m args below meth c H locs cells slots Q (F0 m 1667 ls []) := by
  refine lv_aload_n hx hb dL_law_1667 rfl (lv_at hl 1 rfl) ?_
  refine l_arg (j := 1) hx hb hI hi hLL (by decide) (lv_at hl 0 rfl) (lv_at hl 5 rfl) dL_law_1668 (by decide) dL_law_1669 dL_law_1671 dL_law_1672 dL_law_1673 ?_
  refine lv_aload_n hx hb dL_law_1674 rfl (lv_at hl 3 rfl) ?_
  refine l_help (As := [.ref (w.1 12 16), .int (xs (i0 + 1)), .ref oL]) (rest := []) hx hb hml hown hI (h_zoneOf l w hsf H.size oL cL x (xs (i0 + 1)) M o h1 k x1 hres) (l_cw (n := 3) hI.1.T (tin5 (List.mem_of_getElem? (l := tables_1_5) (i := 82) rfl)) (q1040 hI.1.T) (q1041 hI.1.T) (q0 hI.1.T) (by decide +kernel) ⟨rfl, rfl, (Nat.le_trans (Nat.le_of_ble_eq_true rfl) hR.1), (Nat.le_trans (Nat.le_of_ble_eq_true rfl) hR.2.1)⟩) rfl hl.1 (Nat.le_of_ble_eq_true rfl) dL_law_1675 ⟨Nat.le_trans (Nat.add_le_add_left (Nat.le_of_ble_eq_true rfl) _) hR.2.2.1, Nat.le_trans (Nat.add_le_add_left (Nat.le_of_ble_eq_true rfl) _) hR.2.2.2⟩ (fun H locs hI => ?_)
  refine lv_istore (lv' := [(6, .int k), (0, .ref b), (1, .ref (w.1 12 16)), (2, .ref (w.1 12 47)), (3, .ref oL), (4, .ref oD), (5, .int (Int32.ofNat i0))]) hx hb dL_law_1678 hl (by decide) rfl (fun ls hl => ?_)
  refine lv_aload_n hx hb dL_law_1680 rfl (lv_at hl 3 rfl) ?_
  refine l_arg (j := 1) hx hb hI hi hLL (by decide) (lv_at hl 1 rfl) (lv_at hl 6 rfl) dL_law_1681 (by decide) dL_law_1682 dL_law_1684 dL_law_1685 dL_law_1686 ?_
  refine l_callV (As := [.int (xs (i0 + 1))]) (rest := []) hx hb hml hown hI (c_X12_zoneOf l w H.size (xs (i0 + 1)) M r M2 h2) (kb_X12_zoneOf hI.1.T (q1763 hI.1.T) (Nat.le_trans (Nat.le_of_ble_eq_true rfl) hR.1) (Nat.le_trans (Nat.le_of_ble_eq_true rfl) hR.2.1)) (q1764 hI.1.T) (q1765 hI.1.T) (m_recv hI.1 (mokX (by decide) (by decide)) rfl rfl) rfl hl.1 (Nat.le_of_ble_eq_true rfl) dL_law_1687 ⟨(Nat.le_trans (Nat.add_le_add_left (Nat.le_of_ble_eq_true rfl) _) hR.2.2.1), (Nat.le_trans (Nat.add_le_add_left (Nat.le_of_ble_eq_true rfl) _) hR.2.2.2)⟩ (fun H locs hI => ?_)
  refine lv_istore (lv' := [(7, .int r), (6, .int k), (0, .ref b), (1, .ref (w.1 12 16)), (2, .ref (w.1 12 47)), (3, .ref oL), (4, .ref oD), (5, .int (Int32.ofNat i0))]) hx hb dL_law_1690 hl (by decide) rfl (fun ls hl => ?_)
  refine lv_aload_n hx hb dL_law_1692 rfl (lv_at hl 4 rfl) ?_
  refine l_callV (As := []) (rest := []) hx hb hml hown hI (c_X12_thrown l w H.size M2 (M2 12 47 0) rfl) (kb_X12_thrown hI.1.T (q1496 hI.1.T) (Nat.le_trans (Nat.le_of_ble_eq_true rfl) hR.1) (Nat.le_trans (Nat.le_of_ble_eq_true rfl) hR.2.1)) (q1497 hI.1.T) (q1498 hI.1.T) (m_recv hI.1 (mokX (by decide) (by decide)) rfl rfl) rfl hl.1 (Nat.le_of_ble_eq_true rfl) dL_law_1693 ⟨(Nat.le_trans (Nat.add_le_add_left (Nat.le_of_ble_eq_true rfl) _) hR.2.2.1), (Nat.le_trans (Nat.add_le_add_left (Nat.le_of_ble_eq_true rfl) _) hR.2.2.2)⟩ (fun H locs hI => ?_)
  refine lv_iload hx hb dL_law_1696 (lv_at hl 1 rfl) ?_
  refine lv_icmp_eq (tgt := 1703) hx hb dL_law_1698 (by decide) (fun _ => ?_) (fun c2 => absurd hth c2)
  refine lv_iload hx hb dL_law_1703 (lv_at hl 1 rfl) ?_
  refine lv_if_ne (tgt := 1720) hx hb dL_law_1705 (by decide) (fun _ => ?_) (fun c2 => ?_)
  · refine lv_goto (tgt := 2998) hx hb dL_law_1720 (by decide) ?_
    exact kk H locs ls (lv_sub hl [2, 3, 4, 5, 6, 7] rfl) hI
  refine lv_aload_n hx hb dL_law_1708 rfl (lv_at hl 5 rfl) ?_
  refine lv_iconst (v := 0) hx hb dL_law_1709 (by decide) ?_
  refine l_lald hx hb hI dL_law_1710 ?_
  refine lv_iload hx hb dL_law_1711 (lv_at hl 0 rfl) ?_
  refine lv_i2l (v := r.toInt64) hx hb dL_law_1713 rfl ?_
  refine W.lcmp hx hb dL_law_1714 ?_
  refine lv_if_eq (tgt := 1720) hx hb dL_law_1715 (by decide) (fun _ => ?_) (fun c3 => absurd (by rw [hag c2]; exact lg_cmp0 _) c3)
  refine lv_goto (tgt := 2998) hx hb dL_law_1720 (by decide) ?_
  exact kk H locs ls (lv_sub hl [2, 3, 4, 5, 6, 7] rfl) hI
set_option maxRecDepth 100000 in
theorem l_c31 {p : Program} {l : Launch} {e : Env} {R : Room} {s : State} {m : MethodId} {args : Array Value} {below : List Frame} {meth : Method} {c : Code} {H : Heap} {locs : List Loc} {cells slots : Nat} {Q : State → Prop} {ls : Array Slot} {w : WD} {oL oD b L i0 : Nat} {xs : Nat → Int32} {cL cD : ClassId} {x : Int64} {y : UInt64} (hsf : l.stackTraces = false) (hx : p.tables.exec = Jvm.exec) (hb : c.code = cL_law) (hml : c.maxLocals = 10) (hown : s.vm.findClass "ShareVaultLaw" = some m.cls) (hR : 13 ≤ R.frames ∧ 400 ≤ R.locals ∧ cells + 2 ≤ R.cells ∧ slots + 12 ≤ R.slots) (hi : i0 + 4 < L) (hLL : L ≤ 2560) (hl : lv_has ls 10 (lLoc w b oL oD i0)) {M M2 : Mem} {o : Nat ⊕ Int32} {r k : Int32} {x1 : Int64} (hI : lI w s H locs oL oD cL cD x y b L xs M) (h1 : f_X11_isForwards (xs (i0 + 1)) M = some o) (hres : hRes [(1, 1)] (fun v => if v = 0 then 0 else 1) x o k x1) (h2 : f_X12_isForwards (xs (i0 + 1)) M = some (r, M2)) (hth : M2 12 47 0 = k) (hag : k = 0 → x1 = (if r = 0 then (0 : Int64) else 1)) (kk : ∀ (H1 : Heap) (locs1 : List Loc) (ls1 : Array Slot), lv_has ls1 10 (lLoc w b oL oD i0) → lI w s H1 locs1 oL oD cL cD x1 y b L xs M2 → W p l e R s m args below meth c H1 locs1 (cells + 1) (slots + 6) Q (F0 m 2998 ls1 [])) : W p l e R s m args below meth c H locs cells slots Q (F0 m 1723 ls []) := by
  refine lv_aload_n hx hb dL_law_1723 rfl (lv_at hl 1 rfl) ?_
  refine l_arg (j := 1) hx hb hI hi hLL (by decide) (lv_at hl 0 rfl) (lv_at hl 5 rfl) dL_law_1724 (by decide) dL_law_1725 dL_law_1727 dL_law_1728 dL_law_1729 ?_
  refine lv_aload_n hx hb dL_law_1730 rfl (lv_at hl 3 rfl) ?_
  refine l_help (As := [.ref (w.1 12 16), .int (xs (i0 + 1)), .ref oL]) (rest := []) hx hb hml hown hI (h_isForwards l w hsf H.size oL cL x (xs (i0 + 1)) M o h1 k x1 hres) (l_cw (n := 3) hI.1.T (tin5 (List.mem_of_getElem? (l := tables_1_5) (i := 95) rfl)) (q1053 hI.1.T) (q1054 hI.1.T) (q0 hI.1.T) (by decide +kernel) ⟨rfl, rfl, (Nat.le_trans (Nat.le_of_ble_eq_true rfl) hR.1), (Nat.le_trans (Nat.le_of_ble_eq_true rfl) hR.2.1)⟩) rfl hl.1 (Nat.le_of_ble_eq_true rfl) dL_law_1731 ⟨Nat.le_trans (Nat.add_le_add_left (Nat.le_of_ble_eq_true rfl) _) hR.2.2.1, Nat.le_trans (Nat.add_le_add_left (Nat.le_of_ble_eq_true rfl) _) hR.2.2.2⟩ (fun H locs hI => ?_)
  refine lv_istore (lv' := [(6, .int k), (0, .ref b), (1, .ref (w.1 12 16)), (2, .ref (w.1 12 47)), (3, .ref oL), (4, .ref oD), (5, .int (Int32.ofNat i0))]) hx hb dL_law_1734 hl (by decide) rfl (fun ls hl => ?_)
  refine lv_aload_n hx hb dL_law_1736 rfl (lv_at hl 3 rfl) ?_
  refine l_arg (j := 1) hx hb hI hi hLL (by decide) (lv_at hl 1 rfl) (lv_at hl 6 rfl) dL_law_1737 (by decide) dL_law_1738 dL_law_1740 dL_law_1741 dL_law_1742 ?_
  refine l_callV (As := [.int (xs (i0 + 1))]) (rest := []) hx hb hml hown hI (c_X12_isForwards l w H.size (xs (i0 + 1)) M r M2 h2) (kb_X12_isForwards hI.1.T (q1767 hI.1.T) (Nat.le_trans (Nat.le_of_ble_eq_true rfl) hR.1) (Nat.le_trans (Nat.le_of_ble_eq_true rfl) hR.2.1)) (q1768 hI.1.T) (q1769 hI.1.T) (m_recv hI.1 (mokX (by decide) (by decide)) rfl rfl) rfl hl.1 (Nat.le_of_ble_eq_true rfl) dL_law_1743 ⟨(Nat.le_trans (Nat.add_le_add_left (Nat.le_of_ble_eq_true rfl) _) hR.2.2.1), (Nat.le_trans (Nat.add_le_add_left (Nat.le_of_ble_eq_true rfl) _) hR.2.2.2)⟩ (fun H locs hI => ?_)
  refine lv_istore (lv' := [(7, .int r), (6, .int k), (0, .ref b), (1, .ref (w.1 12 16)), (2, .ref (w.1 12 47)), (3, .ref oL), (4, .ref oD), (5, .int (Int32.ofNat i0))]) hx hb dL_law_1746 hl (by decide) rfl (fun ls hl => ?_)
  refine lv_aload_n hx hb dL_law_1748 rfl (lv_at hl 4 rfl) ?_
  refine l_callV (As := []) (rest := []) hx hb hml hown hI (c_X12_thrown l w H.size M2 (M2 12 47 0) rfl) (kb_X12_thrown hI.1.T (q1496 hI.1.T) (Nat.le_trans (Nat.le_of_ble_eq_true rfl) hR.1) (Nat.le_trans (Nat.le_of_ble_eq_true rfl) hR.2.1)) (q1497 hI.1.T) (q1498 hI.1.T) (m_recv hI.1 (mokX (by decide) (by decide)) rfl rfl) rfl hl.1 (Nat.le_of_ble_eq_true rfl) dL_law_1749 ⟨(Nat.le_trans (Nat.add_le_add_left (Nat.le_of_ble_eq_true rfl) _) hR.2.2.1), (Nat.le_trans (Nat.add_le_add_left (Nat.le_of_ble_eq_true rfl) _) hR.2.2.2)⟩ (fun H locs hI => ?_)
  refine lv_iload hx hb dL_law_1752 (lv_at hl 1 rfl) ?_
  refine lv_icmp_eq (tgt := 1759) hx hb dL_law_1754 (by decide) (fun _ => ?_) (fun c2 => absurd hth c2)
  refine lv_iload hx hb dL_law_1759 (lv_at hl 1 rfl) ?_
  refine lv_if_ne (tgt := 1783) hx hb dL_law_1761 (by decide) (fun _ => ?_) (fun c2 => ?_)
  · refine lv_goto (tgt := 2998) hx hb dL_law_1783 (by decide) ?_
    exact kk H locs ls (lv_sub hl [2, 3, 4, 5, 6, 7] rfl) hI
  refine lv_aload_n hx hb dL_law_1764 rfl (lv_at hl 5 rfl) ?_
  refine lv_iconst (v := 0) hx hb dL_law_1765 (by decide) ?_
  refine l_lald hx hb hI dL_law_1766 ?_
  refine lv_iload hx hb dL_law_1767 (lv_at hl 0 rfl) ?_
  refine l_lbool hx hb dL_law_1769 dL_law_1772 dL_law_1773 dL_law_1776 ?_
  refine W.lcmp hx hb dL_law_1777 ?_
  refine lv_if_eq (tgt := 1783) hx hb dL_law_1778 (by decide) (fun _ => ?_) (fun c3 => absurd (by rw [hag c2]; exact lg_cmp0 _) c3)
  refine lv_goto (tgt := 2998) hx hb dL_law_1783 (by decide) ?_
  exact kk H locs ls (lv_sub hl [2, 3, 4, 5, 6, 7] rfl) hI
set_option maxRecDepth 100000 in
theorem l_c32 {p : Program} {l : Launch} {e : Env} {R : Room} {s : State} {m : MethodId} {args : Array Value} {below : List Frame} {meth : Method} {c : Code} {H : Heap} {locs : List Loc} {cells slots : Nat} {Q : State → Prop} {ls : Array Slot} {w : WD} {oL oD b L i0 : Nat} {xs : Nat → Int32} {cL cD : ClassId} {x : Int64} {y : UInt64} (hsf : l.stackTraces = false) (hx : p.tables.exec = Jvm.exec) (hb : c.code = cL_law) (hml : c.maxLocals = 10) (hown : s.vm.findClass "ShareVaultLaw" = some m.cls) (hR : 13 ≤ R.frames ∧ 400 ≤ R.locals ∧ cells + 2 ≤ R.cells ∧ slots + 12 ≤ R.slots) (hi : i0 + 4 < L) (hLL : L ≤ 2560) (hl : lv_has ls 10 (lLoc w b oL oD i0)) {M M2 : Mem} {o : Nat ⊕ Int32} {r k : Int32} {x1 : Int64} (hI : lI w s H locs oL oD cL cD x y b L xs M) (h1 : f_X11_noise (xs (i0 + 1)) M = some o) (hres : hRes [(2, 1)] (fun v => v.toInt64) x o k x1) (h2 : f_X12_noise (xs (i0 + 1)) M = some (r, M2)) (hth : M2 12 47 0 = k) (hag : k = 0 → x1 = r.toInt64) (kk : ∀ (H1 : Heap) (locs1 : List Loc) (ls1 : Array Slot), lv_has ls1 10 (lLoc w b oL oD i0) → lI w s H1 locs1 oL oD cL cD x1 y b L xs M2 → W p l e R s m args below meth c H1 locs1 (cells + 1) (slots + 6) Q (F0 m 2998 ls1 [])) : W p l e R s m args below meth c H locs cells slots Q (F0 m 1786 ls []) := by
  refine lv_aload_n hx hb dL_law_1786 rfl (lv_at hl 1 rfl) ?_
  refine l_arg (j := 1) hx hb hI hi hLL (by decide) (lv_at hl 0 rfl) (lv_at hl 5 rfl) dL_law_1787 (by decide) dL_law_1788 dL_law_1790 dL_law_1791 dL_law_1792 ?_
  refine lv_aload_n hx hb dL_law_1793 rfl (lv_at hl 3 rfl) ?_
  refine l_help (As := [.ref (w.1 12 16), .int (xs (i0 + 1)), .ref oL]) (rest := []) hx hb hml hown hI (h_noise l w hsf H.size oL cL x (xs (i0 + 1)) M o h1 k x1 hres) (l_cw (n := 3) hI.1.T (tin5 (List.mem_of_getElem? (l := tables_1_5) (i := 102) rfl)) (q1060 hI.1.T) (q1061 hI.1.T) (q0 hI.1.T) (by decide +kernel) ⟨rfl, rfl, (Nat.le_trans (Nat.le_of_ble_eq_true rfl) hR.1), (Nat.le_trans (Nat.le_of_ble_eq_true rfl) hR.2.1)⟩) rfl hl.1 (Nat.le_of_ble_eq_true rfl) dL_law_1794 ⟨Nat.le_trans (Nat.add_le_add_left (Nat.le_of_ble_eq_true rfl) _) hR.2.2.1, Nat.le_trans (Nat.add_le_add_left (Nat.le_of_ble_eq_true rfl) _) hR.2.2.2⟩ (fun H locs hI => ?_)
  refine lv_istore (lv' := [(6, .int k), (0, .ref b), (1, .ref (w.1 12 16)), (2, .ref (w.1 12 47)), (3, .ref oL), (4, .ref oD), (5, .int (Int32.ofNat i0))]) hx hb dL_law_1797 hl (by decide) rfl (fun ls hl => ?_)
  refine lv_aload_n hx hb dL_law_1799 rfl (lv_at hl 3 rfl) ?_
  refine l_arg (j := 1) hx hb hI hi hLL (by decide) (lv_at hl 1 rfl) (lv_at hl 6 rfl) dL_law_1800 (by decide) dL_law_1801 dL_law_1803 dL_law_1804 dL_law_1805 ?_
  refine l_callV (As := [.int (xs (i0 + 1))]) (rest := []) hx hb hml hown hI (c_X12_noise l w H.size (xs (i0 + 1)) M r M2 h2) (kb_X12_noise hI.1.T (q1771 hI.1.T) (Nat.le_trans (Nat.le_of_ble_eq_true rfl) hR.1) (Nat.le_trans (Nat.le_of_ble_eq_true rfl) hR.2.1)) (q1772 hI.1.T) (q1773 hI.1.T) (m_recv hI.1 (mokX (by decide) (by decide)) rfl rfl) rfl hl.1 (Nat.le_of_ble_eq_true rfl) dL_law_1806 ⟨(Nat.le_trans (Nat.add_le_add_left (Nat.le_of_ble_eq_true rfl) _) hR.2.2.1), (Nat.le_trans (Nat.add_le_add_left (Nat.le_of_ble_eq_true rfl) _) hR.2.2.2)⟩ (fun H locs hI => ?_)
  refine lv_istore (lv' := [(7, .int r), (6, .int k), (0, .ref b), (1, .ref (w.1 12 16)), (2, .ref (w.1 12 47)), (3, .ref oL), (4, .ref oD), (5, .int (Int32.ofNat i0))]) hx hb dL_law_1809 hl (by decide) rfl (fun ls hl => ?_)
  refine lv_aload_n hx hb dL_law_1811 rfl (lv_at hl 4 rfl) ?_
  refine l_callV (As := []) (rest := []) hx hb hml hown hI (c_X12_thrown l w H.size M2 (M2 12 47 0) rfl) (kb_X12_thrown hI.1.T (q1496 hI.1.T) (Nat.le_trans (Nat.le_of_ble_eq_true rfl) hR.1) (Nat.le_trans (Nat.le_of_ble_eq_true rfl) hR.2.1)) (q1497 hI.1.T) (q1498 hI.1.T) (m_recv hI.1 (mokX (by decide) (by decide)) rfl rfl) rfl hl.1 (Nat.le_of_ble_eq_true rfl) dL_law_1812 ⟨(Nat.le_trans (Nat.add_le_add_left (Nat.le_of_ble_eq_true rfl) _) hR.2.2.1), (Nat.le_trans (Nat.add_le_add_left (Nat.le_of_ble_eq_true rfl) _) hR.2.2.2)⟩ (fun H locs hI => ?_)
  refine lv_iload hx hb dL_law_1815 (lv_at hl 1 rfl) ?_
  refine lv_icmp_eq (tgt := 1822) hx hb dL_law_1817 (by decide) (fun _ => ?_) (fun c2 => absurd hth c2)
  refine lv_iload hx hb dL_law_1822 (lv_at hl 1 rfl) ?_
  refine lv_if_ne (tgt := 1839) hx hb dL_law_1824 (by decide) (fun _ => ?_) (fun c2 => ?_)
  · refine lv_goto (tgt := 2998) hx hb dL_law_1839 (by decide) ?_
    exact kk H locs ls (lv_sub hl [2, 3, 4, 5, 6, 7] rfl) hI
  refine lv_aload_n hx hb dL_law_1827 rfl (lv_at hl 5 rfl) ?_
  refine lv_iconst (v := 0) hx hb dL_law_1828 (by decide) ?_
  refine l_lald hx hb hI dL_law_1829 ?_
  refine lv_iload hx hb dL_law_1830 (lv_at hl 0 rfl) ?_
  refine lv_i2l (v := r.toInt64) hx hb dL_law_1832 rfl ?_
  refine W.lcmp hx hb dL_law_1833 ?_
  refine lv_if_eq (tgt := 1839) hx hb dL_law_1834 (by decide) (fun _ => ?_) (fun c3 => absurd (by rw [hag c2]; exact lg_cmp0 _) c3)
  refine lv_goto (tgt := 2998) hx hb dL_law_1839 (by decide) ?_
  exact kk H locs ls (lv_sub hl [2, 3, 4, 5, 6, 7] rfl) hI
set_option maxRecDepth 100000 in
theorem l_c33 {p : Program} {l : Launch} {e : Env} {R : Room} {s : State} {m : MethodId} {args : Array Value} {below : List Frame} {meth : Method} {c : Code} {H : Heap} {locs : List Loc} {cells slots : Nat} {Q : State → Prop} {ls : Array Slot} {w : WD} {oL oD b L i0 : Nat} {xs : Nat → Int32} {cL cD : ClassId} {x : Int64} {y : UInt64} (hsf : l.stackTraces = false) (hx : p.tables.exec = Jvm.exec) (hb : c.code = cL_law) (hml : c.maxLocals = 10) (hown : s.vm.findClass "ShareVaultLaw" = some m.cls) (hR : 13 ≤ R.frames ∧ 400 ≤ R.locals ∧ cells + 2 ≤ R.cells ∧ slots + 12 ≤ R.slots) (hi : i0 + 4 < L) (hLL : L ≤ 2560) (hl : lv_has ls 10 (lLoc w b oL oD i0)) {M M2 : Mem} {o : Nat ⊕ Int32} {r k : Int32} {x1 : Int64} (hI : lI w s H locs oL oD cL cD x y b L xs M) (h1 : f_X11_isGuarded (xs (i0 + 1)) M = some o) (hres : hRes [(2, 1)] (fun v => if v = 0 then 0 else 1) x o k x1) (h2 : f_X12_isGuarded (xs (i0 + 1)) M = some (r, M2)) (hth : M2 12 47 0 = k) (hag : k = 0 → x1 = (if r = 0 then (0 : Int64) else 1)) (kk : ∀ (H1 : Heap) (locs1 : List Loc) (ls1 : Array Slot), lv_has ls1 10 (lLoc w b oL oD i0) → lI w s H1 locs1 oL oD cL cD x1 y b L xs M2 → W p l e R s m args below meth c H1 locs1 (cells + 1) (slots + 6) Q (F0 m 2998 ls1 [])) : W p l e R s m args below meth c H locs cells slots Q (F0 m 1842 ls []) := by
  refine lv_aload_n hx hb dL_law_1842 rfl (lv_at hl 1 rfl) ?_
  refine l_arg (j := 1) hx hb hI hi hLL (by decide) (lv_at hl 0 rfl) (lv_at hl 5 rfl) dL_law_1843 (by decide) dL_law_1844 dL_law_1846 dL_law_1847 dL_law_1848 ?_
  refine lv_aload_n hx hb dL_law_1849 rfl (lv_at hl 3 rfl) ?_
  refine l_help (As := [.ref (w.1 12 16), .int (xs (i0 + 1)), .ref oL]) (rest := []) hx hb hml hown hI (h_isGuarded l w hsf H.size oL cL x (xs (i0 + 1)) M o h1 k x1 hres) (l_cw (n := 3) hI.1.T (tin5 (List.mem_of_getElem? (l := tables_1_5) (i := 115) rfl)) (q1073 hI.1.T) (q1074 hI.1.T) (q0 hI.1.T) (by decide +kernel) ⟨rfl, rfl, (Nat.le_trans (Nat.le_of_ble_eq_true rfl) hR.1), (Nat.le_trans (Nat.le_of_ble_eq_true rfl) hR.2.1)⟩) rfl hl.1 (Nat.le_of_ble_eq_true rfl) dL_law_1850 ⟨Nat.le_trans (Nat.add_le_add_left (Nat.le_of_ble_eq_true rfl) _) hR.2.2.1, Nat.le_trans (Nat.add_le_add_left (Nat.le_of_ble_eq_true rfl) _) hR.2.2.2⟩ (fun H locs hI => ?_)
  refine lv_istore (lv' := [(6, .int k), (0, .ref b), (1, .ref (w.1 12 16)), (2, .ref (w.1 12 47)), (3, .ref oL), (4, .ref oD), (5, .int (Int32.ofNat i0))]) hx hb dL_law_1853 hl (by decide) rfl (fun ls hl => ?_)
  refine lv_aload_n hx hb dL_law_1855 rfl (lv_at hl 3 rfl) ?_
  refine l_arg (j := 1) hx hb hI hi hLL (by decide) (lv_at hl 1 rfl) (lv_at hl 6 rfl) dL_law_1856 (by decide) dL_law_1857 dL_law_1859 dL_law_1860 dL_law_1861 ?_
  refine l_callV (As := [.int (xs (i0 + 1))]) (rest := []) hx hb hml hown hI (c_X12_isGuarded l w H.size (xs (i0 + 1)) M r M2 h2) (kb_X12_isGuarded hI.1.T (q1779 hI.1.T) (Nat.le_trans (Nat.le_of_ble_eq_true rfl) hR.1) (Nat.le_trans (Nat.le_of_ble_eq_true rfl) hR.2.1)) (q1780 hI.1.T) (q1781 hI.1.T) (m_recv hI.1 (mokX (by decide) (by decide)) rfl rfl) rfl hl.1 (Nat.le_of_ble_eq_true rfl) dL_law_1862 ⟨(Nat.le_trans (Nat.add_le_add_left (Nat.le_of_ble_eq_true rfl) _) hR.2.2.1), (Nat.le_trans (Nat.add_le_add_left (Nat.le_of_ble_eq_true rfl) _) hR.2.2.2)⟩ (fun H locs hI => ?_)
  refine lv_istore (lv' := [(7, .int r), (6, .int k), (0, .ref b), (1, .ref (w.1 12 16)), (2, .ref (w.1 12 47)), (3, .ref oL), (4, .ref oD), (5, .int (Int32.ofNat i0))]) hx hb dL_law_1865 hl (by decide) rfl (fun ls hl => ?_)
  refine lv_aload_n hx hb dL_law_1867 rfl (lv_at hl 4 rfl) ?_
  refine l_callV (As := []) (rest := []) hx hb hml hown hI (c_X12_thrown l w H.size M2 (M2 12 47 0) rfl) (kb_X12_thrown hI.1.T (q1496 hI.1.T) (Nat.le_trans (Nat.le_of_ble_eq_true rfl) hR.1) (Nat.le_trans (Nat.le_of_ble_eq_true rfl) hR.2.1)) (q1497 hI.1.T) (q1498 hI.1.T) (m_recv hI.1 (mokX (by decide) (by decide)) rfl rfl) rfl hl.1 (Nat.le_of_ble_eq_true rfl) dL_law_1868 ⟨(Nat.le_trans (Nat.add_le_add_left (Nat.le_of_ble_eq_true rfl) _) hR.2.2.1), (Nat.le_trans (Nat.add_le_add_left (Nat.le_of_ble_eq_true rfl) _) hR.2.2.2)⟩ (fun H locs hI => ?_)
  refine lv_iload hx hb dL_law_1871 (lv_at hl 1 rfl) ?_
  refine lv_icmp_eq (tgt := 1878) hx hb dL_law_1873 (by decide) (fun _ => ?_) (fun c2 => absurd hth c2)
  refine lv_iload hx hb dL_law_1878 (lv_at hl 1 rfl) ?_
  refine lv_if_ne (tgt := 1902) hx hb dL_law_1880 (by decide) (fun _ => ?_) (fun c2 => ?_)
  · refine lv_goto (tgt := 2998) hx hb dL_law_1902 (by decide) ?_
    exact kk H locs ls (lv_sub hl [2, 3, 4, 5, 6, 7] rfl) hI
  refine lv_aload_n hx hb dL_law_1883 rfl (lv_at hl 5 rfl) ?_
  refine lv_iconst (v := 0) hx hb dL_law_1884 (by decide) ?_
  refine l_lald hx hb hI dL_law_1885 ?_
  refine lv_iload hx hb dL_law_1886 (lv_at hl 0 rfl) ?_
  refine l_lbool hx hb dL_law_1888 dL_law_1891 dL_law_1892 dL_law_1895 ?_
  refine W.lcmp hx hb dL_law_1896 ?_
  refine lv_if_eq (tgt := 1902) hx hb dL_law_1897 (by decide) (fun _ => ?_) (fun c3 => absurd (by rw [hag c2]; exact lg_cmp0 _) c3)
  refine lv_goto (tgt := 2998) hx hb dL_law_1902 (by decide) ?_
  exact kk H locs ls (lv_sub hl [2, 3, 4, 5, 6, 7] rfl) hI
set_option maxRecDepth 100000 in
theorem l_c34 {p : Program} {l : Launch} {e : Env} {R : Room} {s : State} {m : MethodId} {args : Array Value} {below : List Frame} {meth : Method} {c : Code} {H : Heap} {locs : List Loc} {cells slots : Nat} {Q : State → Prop} {ls : Array Slot} {w : WD} {oL oD b L i0 : Nat} {xs : Nat → Int32} {cL cD : ClassId} {x : Int64} {y : UInt64} (hsf : l.stackTraces = false) (hx : p.tables.exec = Jvm.exec) (hb : c.code = cL_law) (hml : c.maxLocals = 10) (hown : s.vm.findClass "ShareVaultLaw" = some m.cls) (hR : 13 ≤ R.frames ∧ 400 ≤ R.locals ∧ cells + 2 ≤ R.cells ∧ slots + 12 ≤ R.slots) (hi : i0 + 4 < L) (hLL : L ≤ 2560) (hl : lv_has ls 10 (lLoc w b oL oD i0)) {M M1 M2 : Mem} {o : Nat ⊕ Int32} {r k : Int32} {x1 : Int64} (hI : lI w s H locs oL oD cL cD x y b L xs M) (h1 : f_X11_hoursUntilVisit (xs (i0 + 1)) M = some (o, M1)) (hres : hRes [(2, 1), (4, 2)] (fun v => v.toInt64) x o k x1) (h2 : f_X12_hoursUntilVisit (xs (i0 + 1)) M1 = some (r, M2)) (hth : M2 12 47 0 = k) (hag : k = 0 → x1 = r.toInt64) (kk : ∀ (H1 : Heap) (locs1 : List Loc) (ls1 : Array Slot), lv_has ls1 10 (lLoc w b oL oD i0) → lI w s H1 locs1 oL oD cL cD x1 y b L xs M2 → W p l e R s m args below meth c H1 locs1 (cells + 2) (slots + 12) Q (F0 m 2998 ls1 [])) : W p l e R s m args below meth c H locs cells slots Q (F0 m 1905 ls []) := by
  refine lv_aload_n hx hb dL_law_1905 rfl (lv_at hl 1 rfl) ?_
  refine l_arg (j := 1) hx hb hI hi hLL (by decide) (lv_at hl 0 rfl) (lv_at hl 5 rfl) dL_law_1906 (by decide) dL_law_1907 dL_law_1909 dL_law_1910 dL_law_1911 ?_
  refine lv_aload_n hx hb dL_law_1912 rfl (lv_at hl 3 rfl) ?_
  refine l_help (As := [.ref (w.1 12 16), .int (xs (i0 + 1)), .ref oL]) (rest := []) hx hb hml hown hI (h_hoursUntilVisit l w hsf H.size oL cL x (xs (i0 + 1)) M o M1 h1 k x1 hres) (l_cw (n := 3) hI.1.T (tin5 (List.mem_of_getElem? (l := tables_1_5) (i := 123) rfl)) (q1081 hI.1.T) (q1082 hI.1.T) (q0 hI.1.T) (by decide +kernel) ⟨rfl, rfl, (Nat.le_trans (Nat.le_of_ble_eq_true rfl) hR.1), (Nat.le_trans (Nat.le_of_ble_eq_true rfl) hR.2.1)⟩) rfl hl.1 (Nat.le_of_ble_eq_true rfl) dL_law_1913 ⟨Nat.le_trans (Nat.add_le_add_left (Nat.le_of_ble_eq_true rfl) _) hR.2.2.1, Nat.le_trans (Nat.add_le_add_left (Nat.le_of_ble_eq_true rfl) _) hR.2.2.2⟩ (fun H locs hI => ?_)
  refine lv_istore (lv' := [(6, .int k), (0, .ref b), (1, .ref (w.1 12 16)), (2, .ref (w.1 12 47)), (3, .ref oL), (4, .ref oD), (5, .int (Int32.ofNat i0))]) hx hb dL_law_1916 hl (by decide) rfl (fun ls hl => ?_)
  refine lv_aload_n hx hb dL_law_1918 rfl (lv_at hl 3 rfl) ?_
  refine l_arg (j := 1) hx hb hI hi hLL (by decide) (lv_at hl 1 rfl) (lv_at hl 6 rfl) dL_law_1919 (by decide) dL_law_1920 dL_law_1922 dL_law_1923 dL_law_1924 ?_
  refine l_callV (As := [.int (xs (i0 + 1))]) (rest := []) hx hb hml hown hI (c_X12_hoursUntilVisit l w H.size (xs (i0 + 1)) M1 r M2 h2) (kb_X12_hoursUntilVisit hI.1.T (q1783 hI.1.T) (Nat.le_trans (Nat.le_of_ble_eq_true rfl) hR.1) (Nat.le_trans (Nat.le_of_ble_eq_true rfl) hR.2.1)) (q1784 hI.1.T) (q1785 hI.1.T) (m_recv hI.1 (mokX (by decide) (by decide)) rfl rfl) rfl hl.1 (Nat.le_of_ble_eq_true rfl) dL_law_1925 ⟨(Nat.le_trans (Nat.add_le_add_left (Nat.le_of_ble_eq_true rfl) _) hR.2.2.1), (Nat.le_trans (Nat.add_le_add_left (Nat.le_of_ble_eq_true rfl) _) hR.2.2.2)⟩ (fun H locs hI => ?_)
  refine lv_istore (lv' := [(7, .int r), (6, .int k), (0, .ref b), (1, .ref (w.1 12 16)), (2, .ref (w.1 12 47)), (3, .ref oL), (4, .ref oD), (5, .int (Int32.ofNat i0))]) hx hb dL_law_1928 hl (by decide) rfl (fun ls hl => ?_)
  refine lv_aload_n hx hb dL_law_1930 rfl (lv_at hl 4 rfl) ?_
  refine l_callV (As := []) (rest := []) hx hb hml hown hI (c_X12_thrown l w H.size M2 (M2 12 47 0) rfl) (kb_X12_thrown hI.1.T (q1496 hI.1.T) (Nat.le_trans (Nat.le_of_ble_eq_true rfl) hR.1) (Nat.le_trans (Nat.le_of_ble_eq_true rfl) hR.2.1)) (q1497 hI.1.T) (q1498 hI.1.T) (m_recv hI.1 (mokX (by decide) (by decide)) rfl rfl) rfl hl.1 (Nat.le_of_ble_eq_true rfl) dL_law_1931 ⟨(Nat.le_trans (Nat.add_le_add_left (Nat.le_of_ble_eq_true rfl) _) hR.2.2.1), (Nat.le_trans (Nat.add_le_add_left (Nat.le_of_ble_eq_true rfl) _) hR.2.2.2)⟩ (fun H locs hI => ?_)
  refine lv_iload hx hb dL_law_1934 (lv_at hl 1 rfl) ?_
  refine lv_icmp_eq (tgt := 1941) hx hb dL_law_1936 (by decide) (fun _ => ?_) (fun c2 => absurd hth c2)
  refine lv_iload hx hb dL_law_1941 (lv_at hl 1 rfl) ?_
  refine lv_if_ne (tgt := 1958) hx hb dL_law_1943 (by decide) (fun _ => ?_) (fun c2 => ?_)
  · refine lv_goto (tgt := 2998) hx hb dL_law_1958 (by decide) ?_
    exact kk H locs ls (lv_sub hl [2, 3, 4, 5, 6, 7] rfl) hI
  refine lv_aload_n hx hb dL_law_1946 rfl (lv_at hl 5 rfl) ?_
  refine lv_iconst (v := 0) hx hb dL_law_1947 (by decide) ?_
  refine l_lald hx hb hI dL_law_1948 ?_
  refine lv_iload hx hb dL_law_1949 (lv_at hl 0 rfl) ?_
  refine lv_i2l (v := r.toInt64) hx hb dL_law_1951 rfl ?_
  refine W.lcmp hx hb dL_law_1952 ?_
  refine lv_if_eq (tgt := 1958) hx hb dL_law_1953 (by decide) (fun _ => ?_) (fun c3 => absurd (by rw [hag c2]; exact lg_cmp0 _) c3)
  refine lv_goto (tgt := 2998) hx hb dL_law_1958 (by decide) ?_
  exact kk H locs ls (lv_sub hl [2, 3, 4, 5, 6, 7] rfl) hI
set_option maxRecDepth 100000 in
theorem l_c35 {p : Program} {l : Launch} {e : Env} {R : Room} {s : State} {m : MethodId} {args : Array Value} {below : List Frame} {meth : Method} {c : Code} {H : Heap} {locs : List Loc} {cells slots : Nat} {Q : State → Prop} {ls : Array Slot} {w : WD} {oL oD b L i0 : Nat} {xs : Nat → Int32} {cL cD : ClassId} {x : Int64} {y : UInt64} (hsf : l.stackTraces = false) (hx : p.tables.exec = Jvm.exec) (hb : c.code = cL_law) (hml : c.maxLocals = 10) (hown : s.vm.findClass "ShareVaultLaw" = some m.cls) (hR : 13 ≤ R.frames ∧ 400 ≤ R.locals ∧ cells + 2 ≤ R.cells ∧ slots + 12 ≤ R.slots) (hi : i0 + 4 < L) (hLL : L ≤ 2560) (hl : lv_has ls 10 (lLoc w b oL oD i0)) {M M2 : Mem} {o : Nat ⊕ Int32} {r k : Int32} {x1 : Int64} (hI : lI w s H locs oL oD cL cD x y b L xs M) (h1 : f_X11_hoursUntilVisitByRemainders (xs (i0 + 1)) M = some o) (hres : hRes [(2, 1), (4, 2)] (fun v => v.toInt64) x o k x1) (h2 : f_X12_hoursUntilVisitByRemainders (xs (i0 + 1)) M = some (r, M2)) (hth : M2 12 47 0 = k) (hag : k = 0 → x1 = r.toInt64) (kk : ∀ (H1 : Heap) (locs1 : List Loc) (ls1 : Array Slot), lv_has ls1 10 (lLoc w b oL oD i0) → lI w s H1 locs1 oL oD cL cD x1 y b L xs M2 → W p l e R s m args below meth c H1 locs1 (cells + 2) (slots + 12) Q (F0 m 2998 ls1 [])) : W p l e R s m args below meth c H locs cells slots Q (F0 m 1961 ls []) := by
  refine lv_aload_n hx hb dL_law_1961 rfl (lv_at hl 1 rfl) ?_
  refine l_arg (j := 1) hx hb hI hi hLL (by decide) (lv_at hl 0 rfl) (lv_at hl 5 rfl) dL_law_1962 (by decide) dL_law_1963 dL_law_1965 dL_law_1966 dL_law_1967 ?_
  refine lv_aload_n hx hb dL_law_1968 rfl (lv_at hl 3 rfl) ?_
  refine l_help (As := [.ref (w.1 12 16), .int (xs (i0 + 1)), .ref oL]) (rest := []) hx hb hml hown hI (h_hoursUntilVisitByRemainders l w hsf H.size oL cL x (xs (i0 + 1)) M o h1 k x1 hres) (l_cw (n := 3) hI.1.T (tin5 (List.mem_of_getElem? (l := tables_1_5) (i := 135) rfl)) (q1093 hI.1.T) (q1094 hI.1.T) (q0 hI.1.T) (by decide +kernel) ⟨rfl, rfl, (Nat.le_trans (Nat.le_of_ble_eq_true rfl) hR.1), (Nat.le_trans (Nat.le_of_ble_eq_true rfl) hR.2.1)⟩) rfl hl.1 (Nat.le_of_ble_eq_true rfl) dL_law_1969 ⟨Nat.le_trans (Nat.add_le_add_left (Nat.le_of_ble_eq_true rfl) _) hR.2.2.1, Nat.le_trans (Nat.add_le_add_left (Nat.le_of_ble_eq_true rfl) _) hR.2.2.2⟩ (fun H locs hI => ?_)
  refine lv_istore (lv' := [(6, .int k), (0, .ref b), (1, .ref (w.1 12 16)), (2, .ref (w.1 12 47)), (3, .ref oL), (4, .ref oD), (5, .int (Int32.ofNat i0))]) hx hb dL_law_1972 hl (by decide) rfl (fun ls hl => ?_)
  refine lv_aload_n hx hb dL_law_1974 rfl (lv_at hl 3 rfl) ?_
  refine l_arg (j := 1) hx hb hI hi hLL (by decide) (lv_at hl 1 rfl) (lv_at hl 6 rfl) dL_law_1975 (by decide) dL_law_1976 dL_law_1978 dL_law_1979 dL_law_1980 ?_
  refine l_callV (As := [.int (xs (i0 + 1))]) (rest := []) hx hb hml hown hI (c_X12_hoursUntilVisitByRemainders l w H.size (xs (i0 + 1)) M r M2 h2) (kb_X12_hoursUntilVisitByRemainders hI.1.T (q1795 hI.1.T) (Nat.le_trans (Nat.le_of_ble_eq_true rfl) hR.1) (Nat.le_trans (Nat.le_of_ble_eq_true rfl) hR.2.1)) (q1796 hI.1.T) (q1797 hI.1.T) (m_recv hI.1 (mokX (by decide) (by decide)) rfl rfl) rfl hl.1 (Nat.le_of_ble_eq_true rfl) dL_law_1981 ⟨(Nat.le_trans (Nat.add_le_add_left (Nat.le_of_ble_eq_true rfl) _) hR.2.2.1), (Nat.le_trans (Nat.add_le_add_left (Nat.le_of_ble_eq_true rfl) _) hR.2.2.2)⟩ (fun H locs hI => ?_)
  refine lv_istore (lv' := [(7, .int r), (6, .int k), (0, .ref b), (1, .ref (w.1 12 16)), (2, .ref (w.1 12 47)), (3, .ref oL), (4, .ref oD), (5, .int (Int32.ofNat i0))]) hx hb dL_law_1984 hl (by decide) rfl (fun ls hl => ?_)
  refine lv_aload_n hx hb dL_law_1986 rfl (lv_at hl 4 rfl) ?_
  refine l_callV (As := []) (rest := []) hx hb hml hown hI (c_X12_thrown l w H.size M2 (M2 12 47 0) rfl) (kb_X12_thrown hI.1.T (q1496 hI.1.T) (Nat.le_trans (Nat.le_of_ble_eq_true rfl) hR.1) (Nat.le_trans (Nat.le_of_ble_eq_true rfl) hR.2.1)) (q1497 hI.1.T) (q1498 hI.1.T) (m_recv hI.1 (mokX (by decide) (by decide)) rfl rfl) rfl hl.1 (Nat.le_of_ble_eq_true rfl) dL_law_1987 ⟨(Nat.le_trans (Nat.add_le_add_left (Nat.le_of_ble_eq_true rfl) _) hR.2.2.1), (Nat.le_trans (Nat.add_le_add_left (Nat.le_of_ble_eq_true rfl) _) hR.2.2.2)⟩ (fun H locs hI => ?_)
  refine lv_iload hx hb dL_law_1990 (lv_at hl 1 rfl) ?_
  refine lv_icmp_eq (tgt := 1997) hx hb dL_law_1992 (by decide) (fun _ => ?_) (fun c2 => absurd hth c2)
  refine lv_iload hx hb dL_law_1997 (lv_at hl 1 rfl) ?_
  refine lv_if_ne (tgt := 2014) hx hb dL_law_1999 (by decide) (fun _ => ?_) (fun c2 => ?_)
  · refine lv_goto (tgt := 2998) hx hb dL_law_2014 (by decide) ?_
    exact kk H locs ls (lv_sub hl [2, 3, 4, 5, 6, 7] rfl) hI
  refine lv_aload_n hx hb dL_law_2002 rfl (lv_at hl 5 rfl) ?_
  refine lv_iconst (v := 0) hx hb dL_law_2003 (by decide) ?_
  refine l_lald hx hb hI dL_law_2004 ?_
  refine lv_iload hx hb dL_law_2005 (lv_at hl 0 rfl) ?_
  refine lv_i2l (v := r.toInt64) hx hb dL_law_2007 rfl ?_
  refine W.lcmp hx hb dL_law_2008 ?_
  refine lv_if_eq (tgt := 2014) hx hb dL_law_2009 (by decide) (fun _ => ?_) (fun c3 => absurd (by rw [hag c2]; exact lg_cmp0 _) c3)
  refine lv_goto (tgt := 2998) hx hb dL_law_2014 (by decide) ?_
  exact kk H locs ls (lv_sub hl [2, 3, 4, 5, 6, 7] rfl) hI
set_option maxRecDepth 100000 in
theorem l_c36 {p : Program} {l : Launch} {e : Env} {R : Room} {s : State} {m : MethodId} {args : Array Value} {below : List Frame} {meth : Method} {c : Code} {H : Heap} {locs : List Loc} {cells slots : Nat} {Q : State → Prop} {ls : Array Slot} {w : WD} {oL oD b L i0 : Nat} {xs : Nat → Int32} {cL cD : ClassId} {x : Int64} {y : UInt64} (hsf : l.stackTraces = false) (hx : p.tables.exec = Jvm.exec) (hb : c.code = cL_law) (hml : c.maxLocals = 10) (hown : s.vm.findClass "ShareVaultLaw" = some m.cls) (hR : 13 ≤ R.frames ∧ 400 ≤ R.locals ∧ cells + 2 ≤ R.cells ∧ slots + 12 ≤ R.slots) (hi : i0 + 4 < L) (hLL : L ≤ 2560) (hl : lv_has ls 10 (lLoc w b oL oD i0)) {M M1 M2 : Mem} {o : Nat ⊕ Int32} {r k : Int32} {x1 : Int64} (hI : lI w s H locs oL oD cL cD x y b L xs M) (h1 : f_X11_alarmsIn (xs (i0 + 1)) M = some (o, M1)) (hres : hRes [(2, 1)] (fun v => v.toInt64) x o k x1) (h2 : f_X12_alarmsIn (xs (i0 + 1)) M1 = some (r, M2)) (hth : M2 12 47 0 = k) (hag : k = 0 → x1 = r.toInt64) (kk : ∀ (H1 : Heap) (locs1 : List Loc) (ls1 : Array Slot), lv_has ls1 10 (lLoc w b oL oD i0) → lI w s H1 locs1 oL oD cL cD x1 y b L xs M2 → W p l e R s m args below meth c H1 locs1 (cells + 1) (slots + 6) Q (F0 m 2998 ls1 [])) : W p l e R s m args below meth c H locs cells slots Q (F0 m 2017 ls []) := by
  refine lv_aload_n hx hb dL_law_2017 rfl (lv_at hl 1 rfl) ?_
  refine l_arg (j := 1) hx hb hI hi hLL (by decide) (lv_at hl 0 rfl) (lv_at hl 5 rfl) dL_law_2018 (by decide) dL_law_2019 dL_law_2021 dL_law_2022 dL_law_2023 ?_
  refine lv_aload_n hx hb dL_law_2024 rfl (lv_at hl 3 rfl) ?_
  refine l_help (As := [.ref (w.1 12 16), .int (xs (i0 + 1)), .ref oL]) (rest := []) hx hb hml hown hI (h_alarmsIn l w hsf H.size oL cL x (xs (i0 + 1)) M o M1 h1 k x1 hres) (l_cw (n := 3) hI.1.T (tin5 (List.mem_of_getElem? (l := tables_1_5) (i := 142) rfl)) (q1100 hI.1.T) (q1101 hI.1.T) (q0 hI.1.T) (by decide +kernel) ⟨rfl, rfl, (Nat.le_trans (Nat.le_of_ble_eq_true rfl) hR.1), (Nat.le_trans (Nat.le_of_ble_eq_true rfl) hR.2.1)⟩) rfl hl.1 (Nat.le_of_ble_eq_true rfl) dL_law_2025 ⟨Nat.le_trans (Nat.add_le_add_left (Nat.le_of_ble_eq_true rfl) _) hR.2.2.1, Nat.le_trans (Nat.add_le_add_left (Nat.le_of_ble_eq_true rfl) _) hR.2.2.2⟩ (fun H locs hI => ?_)
  refine lv_istore (lv' := [(6, .int k), (0, .ref b), (1, .ref (w.1 12 16)), (2, .ref (w.1 12 47)), (3, .ref oL), (4, .ref oD), (5, .int (Int32.ofNat i0))]) hx hb dL_law_2028 hl (by decide) rfl (fun ls hl => ?_)
  refine lv_aload_n hx hb dL_law_2030 rfl (lv_at hl 3 rfl) ?_
  refine l_arg (j := 1) hx hb hI hi hLL (by decide) (lv_at hl 1 rfl) (lv_at hl 6 rfl) dL_law_2031 (by decide) dL_law_2032 dL_law_2034 dL_law_2035 dL_law_2036 ?_
  refine l_callV (As := [.int (xs (i0 + 1))]) (rest := []) hx hb hml hown hI (c_X12_alarmsIn l w H.size (xs (i0 + 1)) M1 r M2 h2) (kb_X12_alarmsIn hI.1.T (q1800 hI.1.T) (Nat.le_trans (Nat.le_of_ble_eq_true rfl) hR.1) (Nat.le_trans (Nat.le_of_ble_eq_true rfl) hR.2.1)) (q1801 hI.1.T) (q1802 hI.1.T) (m_recv hI.1 (mokX (by decide) (by decide)) rfl rfl) rfl hl.1 (Nat.le_of_ble_eq_true rfl) dL_law_2037 ⟨(Nat.le_trans (Nat.add_le_add_left (Nat.le_of_ble_eq_true rfl) _) hR.2.2.1), (Nat.le_trans (Nat.add_le_add_left (Nat.le_of_ble_eq_true rfl) _) hR.2.2.2)⟩ (fun H locs hI => ?_)
  refine lv_istore (lv' := [(7, .int r), (6, .int k), (0, .ref b), (1, .ref (w.1 12 16)), (2, .ref (w.1 12 47)), (3, .ref oL), (4, .ref oD), (5, .int (Int32.ofNat i0))]) hx hb dL_law_2040 hl (by decide) rfl (fun ls hl => ?_)
  refine lv_aload_n hx hb dL_law_2042 rfl (lv_at hl 4 rfl) ?_
  refine l_callV (As := []) (rest := []) hx hb hml hown hI (c_X12_thrown l w H.size M2 (M2 12 47 0) rfl) (kb_X12_thrown hI.1.T (q1496 hI.1.T) (Nat.le_trans (Nat.le_of_ble_eq_true rfl) hR.1) (Nat.le_trans (Nat.le_of_ble_eq_true rfl) hR.2.1)) (q1497 hI.1.T) (q1498 hI.1.T) (m_recv hI.1 (mokX (by decide) (by decide)) rfl rfl) rfl hl.1 (Nat.le_of_ble_eq_true rfl) dL_law_2043 ⟨(Nat.le_trans (Nat.add_le_add_left (Nat.le_of_ble_eq_true rfl) _) hR.2.2.1), (Nat.le_trans (Nat.add_le_add_left (Nat.le_of_ble_eq_true rfl) _) hR.2.2.2)⟩ (fun H locs hI => ?_)
  refine lv_iload hx hb dL_law_2046 (lv_at hl 1 rfl) ?_
  refine lv_icmp_eq (tgt := 2053) hx hb dL_law_2048 (by decide) (fun _ => ?_) (fun c2 => absurd hth c2)
  refine lv_iload hx hb dL_law_2053 (lv_at hl 1 rfl) ?_
  refine lv_if_ne (tgt := 2070) hx hb dL_law_2055 (by decide) (fun _ => ?_) (fun c2 => ?_)
  · refine lv_goto (tgt := 2998) hx hb dL_law_2070 (by decide) ?_
    exact kk H locs ls (lv_sub hl [2, 3, 4, 5, 6, 7] rfl) hI
  refine lv_aload_n hx hb dL_law_2058 rfl (lv_at hl 5 rfl) ?_
  refine lv_iconst (v := 0) hx hb dL_law_2059 (by decide) ?_
  refine l_lald hx hb hI dL_law_2060 ?_
  refine lv_iload hx hb dL_law_2061 (lv_at hl 0 rfl) ?_
  refine lv_i2l (v := r.toInt64) hx hb dL_law_2063 rfl ?_
  refine W.lcmp hx hb dL_law_2064 ?_
  refine lv_if_eq (tgt := 2070) hx hb dL_law_2065 (by decide) (fun _ => ?_) (fun c3 => absurd (by rw [hag c2]; exact lg_cmp0 _) c3)
  refine lv_goto (tgt := 2998) hx hb dL_law_2070 (by decide) ?_
  exact kk H locs ls (lv_sub hl [2, 3, 4, 5, 6, 7] rfl) hI
set_option maxRecDepth 100000 in
theorem l_c37 {p : Program} {l : Launch} {e : Env} {R : Room} {s : State} {m : MethodId} {args : Array Value} {below : List Frame} {meth : Method} {c : Code} {H : Heap} {locs : List Loc} {cells slots : Nat} {Q : State → Prop} {ls : Array Slot} {w : WD} {oL oD b L i0 : Nat} {xs : Nat → Int32} {cL cD : ClassId} {x : Int64} {y : UInt64} (hsf : l.stackTraces = false) (hx : p.tables.exec = Jvm.exec) (hb : c.code = cL_law) (hml : c.maxLocals = 10) (hown : s.vm.findClass "ShareVaultLaw" = some m.cls) (hR : 13 ≤ R.frames ∧ 400 ≤ R.locals ∧ cells + 2 ≤ R.cells ∧ slots + 12 ≤ R.slots) (hi : i0 + 4 < L) (hLL : L ≤ 2560) (hl : lv_has ls 10 (lLoc w b oL oD i0)) {M M2 : Mem} {o : Nat ⊕ Int32} {r k : Int32} {x1 : Int64} (hI : lI w s H locs oL oD cL cD x y b L xs M) (h1 : f_X11_zoneByNoise (xs (i0 + 1)) M = some o) (hres : hRes [(4, 1)] (fun v => v.toInt64) x o k x1) (h2 : f_X12_zoneByNoise (xs (i0 + 1)) M = some (r, M2)) (hth : M2 12 47 0 = k) (hag : k = 0 → x1 = r.toInt64) (kk : ∀ (H1 : Heap) (locs1 : List Loc) (ls1 : Array Slot), lv_has ls1 10 (lLoc w b oL oD i0) → lI w s H1 locs1 oL oD cL cD x1 y b L xs M2 → W p l e R s m args below meth c H1 locs1 (cells + 1) (slots + 6) Q (F0 m 2998 ls1 [])) : W p l e R s m args below meth c H locs cells slots Q (F0 m 2073 ls []) := by
  refine lv_aload_n hx hb dL_law_2073 rfl (lv_at hl 1 rfl) ?_
  refine l_arg (j := 1) hx hb hI hi hLL (by decide) (lv_at hl 0 rfl) (lv_at hl 5 rfl) dL_law_2074 (by decide) dL_law_2075 dL_law_2077 dL_law_2078 dL_law_2079 ?_
  refine lv_aload_n hx hb dL_law_2080 rfl (lv_at hl 3 rfl) ?_
  refine l_help (As := [.ref (w.1 12 16), .int (xs (i0 + 1)), .ref oL]) (rest := []) hx hb hml hown hI (h_zoneByNoise l w hsf H.size oL cL x (xs (i0 + 1)) M o h1 k x1 hres) (l_cw (n := 3) hI.1.T (tin5 (List.mem_of_getElem? (l := tables_1_5) (i := 151) rfl)) (q1109 hI.1.T) (q1110 hI.1.T) (q0 hI.1.T) (by decide +kernel) ⟨rfl, rfl, (Nat.le_trans (Nat.le_of_ble_eq_true rfl) hR.1), (Nat.le_trans (Nat.le_of_ble_eq_true rfl) hR.2.1)⟩) rfl hl.1 (Nat.le_of_ble_eq_true rfl) dL_law_2081 ⟨Nat.le_trans (Nat.add_le_add_left (Nat.le_of_ble_eq_true rfl) _) hR.2.2.1, Nat.le_trans (Nat.add_le_add_left (Nat.le_of_ble_eq_true rfl) _) hR.2.2.2⟩ (fun H locs hI => ?_)
  refine lv_istore (lv' := [(6, .int k), (0, .ref b), (1, .ref (w.1 12 16)), (2, .ref (w.1 12 47)), (3, .ref oL), (4, .ref oD), (5, .int (Int32.ofNat i0))]) hx hb dL_law_2084 hl (by decide) rfl (fun ls hl => ?_)
  refine lv_aload_n hx hb dL_law_2086 rfl (lv_at hl 3 rfl) ?_
  refine l_arg (j := 1) hx hb hI hi hLL (by decide) (lv_at hl 1 rfl) (lv_at hl 6 rfl) dL_law_2087 (by decide) dL_law_2088 dL_law_2090 dL_law_2091 dL_law_2092 ?_
  refine l_callV (As := [.int (xs (i0 + 1))]) (rest := []) hx hb hml hown hI (c_X12_zoneByNoise l w H.size (xs (i0 + 1)) M r M2 h2) (kb_X12_zoneByNoise hI.1.T (q1804 hI.1.T) (Nat.le_trans (Nat.le_of_ble_eq_true rfl) hR.1) (Nat.le_trans (Nat.le_of_ble_eq_true rfl) hR.2.1)) (q1805 hI.1.T) (q1806 hI.1.T) (m_recv hI.1 (mokX (by decide) (by decide)) rfl rfl) rfl hl.1 (Nat.le_of_ble_eq_true rfl) dL_law_2093 ⟨(Nat.le_trans (Nat.add_le_add_left (Nat.le_of_ble_eq_true rfl) _) hR.2.2.1), (Nat.le_trans (Nat.add_le_add_left (Nat.le_of_ble_eq_true rfl) _) hR.2.2.2)⟩ (fun H locs hI => ?_)
  refine lv_istore (lv' := [(7, .int r), (6, .int k), (0, .ref b), (1, .ref (w.1 12 16)), (2, .ref (w.1 12 47)), (3, .ref oL), (4, .ref oD), (5, .int (Int32.ofNat i0))]) hx hb dL_law_2096 hl (by decide) rfl (fun ls hl => ?_)
  refine lv_aload_n hx hb dL_law_2098 rfl (lv_at hl 4 rfl) ?_
  refine l_callV (As := []) (rest := []) hx hb hml hown hI (c_X12_thrown l w H.size M2 (M2 12 47 0) rfl) (kb_X12_thrown hI.1.T (q1496 hI.1.T) (Nat.le_trans (Nat.le_of_ble_eq_true rfl) hR.1) (Nat.le_trans (Nat.le_of_ble_eq_true rfl) hR.2.1)) (q1497 hI.1.T) (q1498 hI.1.T) (m_recv hI.1 (mokX (by decide) (by decide)) rfl rfl) rfl hl.1 (Nat.le_of_ble_eq_true rfl) dL_law_2099 ⟨(Nat.le_trans (Nat.add_le_add_left (Nat.le_of_ble_eq_true rfl) _) hR.2.2.1), (Nat.le_trans (Nat.add_le_add_left (Nat.le_of_ble_eq_true rfl) _) hR.2.2.2)⟩ (fun H locs hI => ?_)
  refine lv_iload hx hb dL_law_2102 (lv_at hl 1 rfl) ?_
  refine lv_icmp_eq (tgt := 2109) hx hb dL_law_2104 (by decide) (fun _ => ?_) (fun c2 => absurd hth c2)
  refine lv_iload hx hb dL_law_2109 (lv_at hl 1 rfl) ?_
  refine lv_if_ne (tgt := 2126) hx hb dL_law_2111 (by decide) (fun _ => ?_) (fun c2 => ?_)
  · refine lv_goto (tgt := 2998) hx hb dL_law_2126 (by decide) ?_
    exact kk H locs ls (lv_sub hl [2, 3, 4, 5, 6, 7] rfl) hI
  refine lv_aload_n hx hb dL_law_2114 rfl (lv_at hl 5 rfl) ?_
  refine lv_iconst (v := 0) hx hb dL_law_2115 (by decide) ?_
  refine l_lald hx hb hI dL_law_2116 ?_
  refine lv_iload hx hb dL_law_2117 (lv_at hl 0 rfl) ?_
  refine lv_i2l (v := r.toInt64) hx hb dL_law_2119 rfl ?_
  refine W.lcmp hx hb dL_law_2120 ?_
  refine lv_if_eq (tgt := 2126) hx hb dL_law_2121 (by decide) (fun _ => ?_) (fun c3 => absurd (by rw [hag c2]; exact lg_cmp0 _) c3)
  refine lv_goto (tgt := 2998) hx hb dL_law_2126 (by decide) ?_
  exact kk H locs ls (lv_sub hl [2, 3, 4, 5, 6, 7] rfl) hI
set_option maxRecDepth 100000 in
theorem l_c38 {p : Program} {l : Launch} {e : Env} {R : Room} {s : State} {m : MethodId} {args : Array Value} {below : List Frame} {meth : Method} {c : Code} {H : Heap} {locs : List Loc} {cells slots : Nat} {Q : State → Prop} {ls : Array Slot} {w : WD} {oL oD b L i0 : Nat} {xs : Nat → Int32} {cL cD : ClassId} {x : Int64} {y : UInt64} (hsf : l.stackTraces = false) (hx : p.tables.exec = Jvm.exec) (hb : c.code = cL_law) (hml : c.maxLocals = 10) (hown : s.vm.findClass "ShareVaultLaw" = some m.cls) (hR : 13 ≤ R.frames ∧ 400 ≤ R.locals ∧ cells + 2 ≤ R.cells ∧ slots + 12 ≤ R.slots) (hi : i0 + 4 < L) (hLL : L ≤ 2560) (hl : lv_has ls 10 (lLoc w b oL oD i0)) {M M2 : Mem} {o : Nat ⊕ Int32} {r k : Int32} {x1 : Int64} (hI : lI w s H locs oL oD cL cD x y b L xs M) (h1 : f_X11_alarmsOf (xs (i0 + 1)) M = some o) (hres : hRes [(2, 1)] (fun v => v.toInt64) x o k x1) (h2 : f_X12_alarmsOf (xs (i0 + 1)) M = some (r, M2)) (hth : M2 12 47 0 = k) (hag : k = 0 → x1 = r.toInt64) (kk : ∀ (H1 : Heap) (locs1 : List Loc) (ls1 : Array Slot), lv_has ls1 10 (lLoc w b oL oD i0) → lI w s H1 locs1 oL oD cL cD x1 y b L xs M2 → W p l e R s m args below meth c H1 locs1 (cells + 1) (slots + 6) Q (F0 m 2998 ls1 [])) : W p l e R s m args below meth c H locs cells slots Q (F0 m 2129 ls []) := by
  refine lv_aload_n hx hb dL_law_2129 rfl (lv_at hl 1 rfl) ?_
  refine l_arg (j := 1) hx hb hI hi hLL (by decide) (lv_at hl 0 rfl) (lv_at hl 5 rfl) dL_law_2130 (by decide) dL_law_2131 dL_law_2133 dL_law_2134 dL_law_2135 ?_
  refine lv_aload_n hx hb dL_law_2136 rfl (lv_at hl 3 rfl) ?_
  refine l_help (As := [.ref (w.1 12 16), .int (xs (i0 + 1)), .ref oL]) (rest := []) hx hb hml hown hI (h_alarmsOf l w hsf H.size oL cL x (xs (i0 + 1)) M o h1 k x1 hres) (l_cw (n := 3) hI.1.T (tin5 (List.mem_of_getElem? (l := tables_1_5) (i := 171) rfl)) (q1129 hI.1.T) (q1130 hI.1.T) (q0 hI.1.T) (by decide +kernel) ⟨rfl, rfl, (Nat.le_trans (Nat.le_of_ble_eq_true rfl) hR.1), (Nat.le_trans (Nat.le_of_ble_eq_true rfl) hR.2.1)⟩) rfl hl.1 (Nat.le_of_ble_eq_true rfl) dL_law_2137 ⟨Nat.le_trans (Nat.add_le_add_left (Nat.le_of_ble_eq_true rfl) _) hR.2.2.1, Nat.le_trans (Nat.add_le_add_left (Nat.le_of_ble_eq_true rfl) _) hR.2.2.2⟩ (fun H locs hI => ?_)
  refine lv_istore (lv' := [(6, .int k), (0, .ref b), (1, .ref (w.1 12 16)), (2, .ref (w.1 12 47)), (3, .ref oL), (4, .ref oD), (5, .int (Int32.ofNat i0))]) hx hb dL_law_2140 hl (by decide) rfl (fun ls hl => ?_)
  refine lv_aload_n hx hb dL_law_2142 rfl (lv_at hl 3 rfl) ?_
  refine l_arg (j := 1) hx hb hI hi hLL (by decide) (lv_at hl 1 rfl) (lv_at hl 6 rfl) dL_law_2143 (by decide) dL_law_2144 dL_law_2146 dL_law_2147 dL_law_2148 ?_
  refine l_callV (As := [.int (xs (i0 + 1))]) (rest := []) hx hb hml hown hI (c_X12_alarmsOf l w H.size (xs (i0 + 1)) M r M2 h2) (kb_X12_alarmsOf hI.1.T (q1812 hI.1.T) (Nat.le_trans (Nat.le_of_ble_eq_true rfl) hR.1) (Nat.le_trans (Nat.le_of_ble_eq_true rfl) hR.2.1)) (q1813 hI.1.T) (q1814 hI.1.T) (m_recv hI.1 (mokX (by decide) (by decide)) rfl rfl) rfl hl.1 (Nat.le_of_ble_eq_true rfl) dL_law_2149 ⟨(Nat.le_trans (Nat.add_le_add_left (Nat.le_of_ble_eq_true rfl) _) hR.2.2.1), (Nat.le_trans (Nat.add_le_add_left (Nat.le_of_ble_eq_true rfl) _) hR.2.2.2)⟩ (fun H locs hI => ?_)
  refine lv_istore (lv' := [(7, .int r), (6, .int k), (0, .ref b), (1, .ref (w.1 12 16)), (2, .ref (w.1 12 47)), (3, .ref oL), (4, .ref oD), (5, .int (Int32.ofNat i0))]) hx hb dL_law_2152 hl (by decide) rfl (fun ls hl => ?_)
  refine lv_aload_n hx hb dL_law_2154 rfl (lv_at hl 4 rfl) ?_
  refine l_callV (As := []) (rest := []) hx hb hml hown hI (c_X12_thrown l w H.size M2 (M2 12 47 0) rfl) (kb_X12_thrown hI.1.T (q1496 hI.1.T) (Nat.le_trans (Nat.le_of_ble_eq_true rfl) hR.1) (Nat.le_trans (Nat.le_of_ble_eq_true rfl) hR.2.1)) (q1497 hI.1.T) (q1498 hI.1.T) (m_recv hI.1 (mokX (by decide) (by decide)) rfl rfl) rfl hl.1 (Nat.le_of_ble_eq_true rfl) dL_law_2155 ⟨(Nat.le_trans (Nat.add_le_add_left (Nat.le_of_ble_eq_true rfl) _) hR.2.2.1), (Nat.le_trans (Nat.add_le_add_left (Nat.le_of_ble_eq_true rfl) _) hR.2.2.2)⟩ (fun H locs hI => ?_)
  refine lv_iload hx hb dL_law_2158 (lv_at hl 1 rfl) ?_
  refine lv_icmp_eq (tgt := 2165) hx hb dL_law_2160 (by decide) (fun _ => ?_) (fun c2 => absurd hth c2)
  refine lv_iload hx hb dL_law_2165 (lv_at hl 1 rfl) ?_
  refine lv_if_ne (tgt := 2182) hx hb dL_law_2167 (by decide) (fun _ => ?_) (fun c2 => ?_)
  · refine lv_goto (tgt := 2998) hx hb dL_law_2182 (by decide) ?_
    exact kk H locs ls (lv_sub hl [2, 3, 4, 5, 6, 7] rfl) hI
  refine lv_aload_n hx hb dL_law_2170 rfl (lv_at hl 5 rfl) ?_
  refine lv_iconst (v := 0) hx hb dL_law_2171 (by decide) ?_
  refine l_lald hx hb hI dL_law_2172 ?_
  refine lv_iload hx hb dL_law_2173 (lv_at hl 0 rfl) ?_
  refine lv_i2l (v := r.toInt64) hx hb dL_law_2175 rfl ?_
  refine W.lcmp hx hb dL_law_2176 ?_
  refine lv_if_eq (tgt := 2182) hx hb dL_law_2177 (by decide) (fun _ => ?_) (fun c3 => absurd (by rw [hag c2]; exact lg_cmp0 _) c3)
  refine lv_goto (tgt := 2998) hx hb dL_law_2182 (by decide) ?_
  exact kk H locs ls (lv_sub hl [2, 3, 4, 5, 6, 7] rfl) hI
set_option maxRecDepth 100000 in
theorem l_c39 {p : Program} {l : Launch} {e : Env} {R : Room} {s : State} {m : MethodId} {args : Array Value} {below : List Frame} {meth : Method} {c : Code} {H : Heap} {locs : List Loc} {cells slots : Nat} {Q : State → Prop} {ls : Array Slot} {w : WD} {oL oD b L i0 : Nat} {xs : Nat → Int32} {cL cD : ClassId} {x : Int64} {y : UInt64} (hsf : l.stackTraces = false) (hx : p.tables.exec = Jvm.exec) (hb : c.code = cL_law) (hml : c.maxLocals = 10) (hown : s.vm.findClass "ShareVaultLaw" = some m.cls) (hR : 13 ≤ R.frames ∧ 400 ≤ R.locals ∧ cells + 2 ≤ R.cells ∧ slots + 12 ≤ R.slots) (hi : i0 + 4 < L) (hLL : L ≤ 2560) (hl : lv_has ls 10 (lLoc w b oL oD i0)) {M M2 : Mem} {r : Int32} (hI : lI w s H locs oL oD cL cD x y b L xs M) (h1 : f_X11_alarmCount M = some r) (h2 : f_X12_alarmCount M = some (r, M2)) (kk : ∀ (H1 : Heap) (locs1 : List Loc), lI w s H1 locs1 oL oD cL cD x y b L xs M2 → W p l e R s m args below meth c H1 locs1 cells slots Q (F0 m 2998 ls [])) : W p l e R s m args below meth c H locs cells slots Q (F0 m 2185 ls []) := by
  refine lv_aload_n hx hb dL_law_2185 rfl (lv_at hl 1 rfl) ?_
  refine l_callV (As := []) (rest := []) hx hb hml hown hI (c_X11_alarmCount l w H.size M r h1) (kb_X11_alarmCount hI.1.T (q362 hI.1.T) (Nat.le_trans (Nat.le_of_ble_eq_true rfl) hR.1) (Nat.le_trans (Nat.le_of_ble_eq_true rfl) hR.2.1)) (q363 hI.1.T) (q364 hI.1.T) (m_recv hI.1 (mokX (by decide) (by decide)) rfl rfl) rfl hl.1 (Nat.le_of_ble_eq_true rfl) dL_law_2186 ⟨(Nat.le_trans (Nat.le_add_right _ _) hR.2.2.1), (Nat.le_trans (Nat.le_add_right _ _) hR.2.2.2)⟩ (fun H locs hI => ?_)
  refine lv_aload_n hx hb dL_law_2189 rfl (lv_at hl 2 rfl) ?_
  refine l_callV (As := []) (rest := [.int r]) hx hb hml hown hI (c_X12_alarmCount l w H.size M r M2 h2) (kb_X12_alarmCount hI.1.T (q1816 hI.1.T) (Nat.le_trans (Nat.le_of_ble_eq_true rfl) hR.1) (Nat.le_trans (Nat.le_of_ble_eq_true rfl) hR.2.1)) (q1817 hI.1.T) (q1818 hI.1.T) (m_recv hI.1 (mokX (by decide) (by decide)) rfl rfl) rfl hl.1 (Nat.le_of_ble_eq_true rfl) dL_law_2190 ⟨(Nat.le_trans (Nat.le_add_right _ _) hR.2.2.1), (Nat.le_trans (Nat.le_add_right _ _) hR.2.2.2)⟩ (fun H locs hI => ?_)
  refine lv_icmp_eq (tgt := 2998) hx hb dL_law_2193 (by decide) (fun _ => ?_) (fun c2 => absurd rfl c2)
  exact kk H locs hI
set_option maxRecDepth 100000 in
theorem l_c40 {p : Program} {l : Launch} {e : Env} {R : Room} {s : State} {m : MethodId} {args : Array Value} {below : List Frame} {meth : Method} {c : Code} {H : Heap} {locs : List Loc} {cells slots : Nat} {Q : State → Prop} {ls : Array Slot} {w : WD} {oL oD b L i0 : Nat} {xs : Nat → Int32} {cL cD : ClassId} {x : Int64} {y : UInt64} (hsf : l.stackTraces = false) (hx : p.tables.exec = Jvm.exec) (hb : c.code = cL_law) (hml : c.maxLocals = 10) (hown : s.vm.findClass "ShareVaultLaw" = some m.cls) (hR : 13 ≤ R.frames ∧ 400 ≤ R.locals ∧ cells + 2 ≤ R.cells ∧ slots + 12 ≤ R.slots) (hi : i0 + 4 < L) (hLL : L ≤ 2560) (hl : lv_has ls 10 (lLoc w b oL oD i0)) {M M2 : Mem} {r : Int32} (hI : lI w s H locs oL oD cL cD x y b L xs M) (h1 : f_X11_openingCount M = some r) (h2 : f_X12_openingCount M = some (r, M2)) (kk : ∀ (H1 : Heap) (locs1 : List Loc), lI w s H1 locs1 oL oD cL cD x y b L xs M2 → W p l e R s m args below meth c H1 locs1 cells slots Q (F0 m 2998 ls [])) : W p l e R s m args below meth c H locs cells slots Q (F0 m 2198 ls []) := by
  refine lv_aload_n hx hb dL_law_2198 rfl (lv_at hl 1 rfl) ?_
  refine l_callV (As := []) (rest := []) hx hb hml hown hI (c_X11_openingCount l w H.size M r h1) (kb_X11_openingCount hI.1.T (q366 hI.1.T) (Nat.le_trans (Nat.le_of_ble_eq_true rfl) hR.1) (Nat.le_trans (Nat.le_of_ble_eq_true rfl) hR.2.1)) (q367 hI.1.T) (q368 hI.1.T) (m_recv hI.1 (mokX (by decide) (by decide)) rfl rfl) rfl hl.1 (Nat.le_of_ble_eq_true rfl) dL_law_2199 ⟨(Nat.le_trans (Nat.le_add_right _ _) hR.2.2.1), (Nat.le_trans (Nat.le_add_right _ _) hR.2.2.2)⟩ (fun H locs hI => ?_)
  refine lv_aload_n hx hb dL_law_2202 rfl (lv_at hl 2 rfl) ?_
  refine l_callV (As := []) (rest := [.int r]) hx hb hml hown hI (c_X12_openingCount l w H.size M r M2 h2) (kb_X12_openingCount hI.1.T (q1820 hI.1.T) (Nat.le_trans (Nat.le_of_ble_eq_true rfl) hR.1) (Nat.le_trans (Nat.le_of_ble_eq_true rfl) hR.2.1)) (q1821 hI.1.T) (q1822 hI.1.T) (m_recv hI.1 (mokX (by decide) (by decide)) rfl rfl) rfl hl.1 (Nat.le_of_ble_eq_true rfl) dL_law_2203 ⟨(Nat.le_trans (Nat.le_add_right _ _) hR.2.2.1), (Nat.le_trans (Nat.le_add_right _ _) hR.2.2.2)⟩ (fun H locs hI => ?_)
  refine lv_icmp_eq (tgt := 2998) hx hb dL_law_2206 (by decide) (fun _ => ?_) (fun c2 => absurd rfl c2)
  exact kk H locs hI
set_option maxRecDepth 100000 in
theorem l_c41 {p : Program} {l : Launch} {e : Env} {R : Room} {s : State} {m : MethodId} {args : Array Value} {below : List Frame} {meth : Method} {c : Code} {H : Heap} {locs : List Loc} {cells slots : Nat} {Q : State → Prop} {ls : Array Slot} {w : WD} {oL oD b L i0 : Nat} {xs : Nat → Int32} {cL cD : ClassId} {x : Int64} {y : UInt64} (hsf : l.stackTraces = false) (hx : p.tables.exec = Jvm.exec) (hb : c.code = cL_law) (hml : c.maxLocals = 10) (hown : s.vm.findClass "ShareVaultLaw" = some m.cls) (hR : 13 ≤ R.frames ∧ 400 ≤ R.locals ∧ cells + 2 ≤ R.cells ∧ slots + 12 ≤ R.slots) (hi : i0 + 4 < L) (hLL : L ≤ 2560) (hl : lv_has ls 10 (lLoc w b oL oD i0)) {M M2 : Mem} {r : Int32} (hI : lI w s H locs oL oD cL cD x y b L xs M) (h1 : f_X11_logCount M = some r) (h2 : f_X12_logCount M = some (r, M2)) (kk : ∀ (H1 : Heap) (locs1 : List Loc), lI w s H1 locs1 oL oD cL cD x y b L xs M2 → W p l e R s m args below meth c H1 locs1 cells slots Q (F0 m 2998 ls [])) : W p l e R s m args below meth c H locs cells slots Q (F0 m 2211 ls []) := by
  refine lv_aload_n hx hb dL_law_2211 rfl (lv_at hl 1 rfl) ?_
  refine l_callV (As := []) (rest := []) hx hb hml hown hI (c_X11_logCount l w H.size M r h1) (kb_X11_logCount hI.1.T (q370 hI.1.T) (Nat.le_trans (Nat.le_of_ble_eq_true rfl) hR.1) (Nat.le_trans (Nat.le_of_ble_eq_true rfl) hR.2.1)) (q371 hI.1.T) (q372 hI.1.T) (m_recv hI.1 (mokX (by decide) (by decide)) rfl rfl) rfl hl.1 (Nat.le_of_ble_eq_true rfl) dL_law_2212 ⟨(Nat.le_trans (Nat.le_add_right _ _) hR.2.2.1), (Nat.le_trans (Nat.le_add_right _ _) hR.2.2.2)⟩ (fun H locs hI => ?_)
  refine lv_aload_n hx hb dL_law_2215 rfl (lv_at hl 2 rfl) ?_
  refine l_callV (As := []) (rest := [.int r]) hx hb hml hown hI (c_X12_logCount l w H.size M r M2 h2) (kb_X12_logCount hI.1.T (q1824 hI.1.T) (Nat.le_trans (Nat.le_of_ble_eq_true rfl) hR.1) (Nat.le_trans (Nat.le_of_ble_eq_true rfl) hR.2.1)) (q1825 hI.1.T) (q1826 hI.1.T) (m_recv hI.1 (mokX (by decide) (by decide)) rfl rfl) rfl hl.1 (Nat.le_of_ble_eq_true rfl) dL_law_2216 ⟨(Nat.le_trans (Nat.le_add_right _ _) hR.2.2.1), (Nat.le_trans (Nat.le_add_right _ _) hR.2.2.2)⟩ (fun H locs hI => ?_)
  refine lv_icmp_eq (tgt := 2998) hx hb dL_law_2219 (by decide) (fun _ => ?_) (fun c2 => absurd rfl c2)
  exact kk H locs hI
set_option maxRecDepth 100000 in
theorem l_c42 {p : Program} {l : Launch} {e : Env} {R : Room} {s : State} {m : MethodId} {args : Array Value} {below : List Frame} {meth : Method} {c : Code} {H : Heap} {locs : List Loc} {cells slots : Nat} {Q : State → Prop} {ls : Array Slot} {w : WD} {oL oD b L i0 : Nat} {xs : Nat → Int32} {cL cD : ClassId} {x : Int64} {y : UInt64} (hsf : l.stackTraces = false) (hx : p.tables.exec = Jvm.exec) (hb : c.code = cL_law) (hml : c.maxLocals = 10) (hown : s.vm.findClass "ShareVaultLaw" = some m.cls) (hR : 13 ≤ R.frames ∧ 400 ≤ R.locals ∧ cells + 2 ≤ R.cells ∧ slots + 12 ≤ R.slots) (hi : i0 + 4 < L) (hLL : L ≤ 2560) (hl : lv_has ls 10 (lLoc w b oL oD i0)) {M M2 : Mem} {o : Nat ⊕ Int32} {r k : Int32} {x1 : Int64} (hI : lI w s H locs oL oD cL cD x y b L xs M) (h1 : f_X11_logHour (xs (i0 + 1)) M = some o) (hres : hRes [(4, 1)] (fun v => v.toInt64) x o k x1) (h2 : f_X12_logHour (xs (i0 + 1)) M = some (r, M2)) (hth : M2 12 47 0 = k) (hag : k = 0 → x1 = r.toInt64) (kk : ∀ (H1 : Heap) (locs1 : List Loc) (ls1 : Array Slot), lv_has ls1 10 (lLoc w b oL oD i0) → lI w s H1 locs1 oL oD cL cD x1 y b L xs M2 → W p l e R s m args below meth c H1 locs1 (cells + 1) (slots + 6) Q (F0 m 2998 ls1 [])) : W p l e R s m args below meth c H locs cells slots Q (F0 m 2224 ls []) := by
  refine lv_aload_n hx hb dL_law_2224 rfl (lv_at hl 1 rfl) ?_
  refine l_arg (j := 1) hx hb hI hi hLL (by decide) (lv_at hl 0 rfl) (lv_at hl 5 rfl) dL_law_2225 (by decide) dL_law_2226 dL_law_2228 dL_law_2229 dL_law_2230 ?_
  refine lv_aload_n hx hb dL_law_2231 rfl (lv_at hl 3 rfl) ?_
  refine l_help (As := [.ref (w.1 12 16), .int (xs (i0 + 1)), .ref oL]) (rest := []) hx hb hml hown hI (h_logHour l w hsf H.size oL cL x (xs (i0 + 1)) M o h1 k x1 hres) (l_cw (n := 3) hI.1.T (tin5 (List.mem_of_getElem? (l := tables_1_5) (i := 178) rfl)) (q1136 hI.1.T) (q1137 hI.1.T) (q0 hI.1.T) (by decide +kernel) ⟨rfl, rfl, (Nat.le_trans (Nat.le_of_ble_eq_true rfl) hR.1), (Nat.le_trans (Nat.le_of_ble_eq_true rfl) hR.2.1)⟩) rfl hl.1 (Nat.le_of_ble_eq_true rfl) dL_law_2232 ⟨Nat.le_trans (Nat.add_le_add_left (Nat.le_of_ble_eq_true rfl) _) hR.2.2.1, Nat.le_trans (Nat.add_le_add_left (Nat.le_of_ble_eq_true rfl) _) hR.2.2.2⟩ (fun H locs hI => ?_)
  refine lv_istore (lv' := [(6, .int k), (0, .ref b), (1, .ref (w.1 12 16)), (2, .ref (w.1 12 47)), (3, .ref oL), (4, .ref oD), (5, .int (Int32.ofNat i0))]) hx hb dL_law_2235 hl (by decide) rfl (fun ls hl => ?_)
  refine lv_aload_n hx hb dL_law_2237 rfl (lv_at hl 3 rfl) ?_
  refine l_arg (j := 1) hx hb hI hi hLL (by decide) (lv_at hl 1 rfl) (lv_at hl 6 rfl) dL_law_2238 (by decide) dL_law_2239 dL_law_2241 dL_law_2242 dL_law_2243 ?_
  refine l_callV (As := [.int (xs (i0 + 1))]) (rest := []) hx hb hml hown hI (c_X12_logHour l w H.size (xs (i0 + 1)) M r M2 h2) (kb_X12_logHour hI.1.T (q1828 hI.1.T) (Nat.le_trans (Nat.le_of_ble_eq_true rfl) hR.1) (Nat.le_trans (Nat.le_of_ble_eq_true rfl) hR.2.1)) (q1829 hI.1.T) (q1830 hI.1.T) (m_recv hI.1 (mokX (by decide) (by decide)) rfl rfl) rfl hl.1 (Nat.le_of_ble_eq_true rfl) dL_law_2244 ⟨(Nat.le_trans (Nat.add_le_add_left (Nat.le_of_ble_eq_true rfl) _) hR.2.2.1), (Nat.le_trans (Nat.add_le_add_left (Nat.le_of_ble_eq_true rfl) _) hR.2.2.2)⟩ (fun H locs hI => ?_)
  refine lv_istore (lv' := [(7, .int r), (6, .int k), (0, .ref b), (1, .ref (w.1 12 16)), (2, .ref (w.1 12 47)), (3, .ref oL), (4, .ref oD), (5, .int (Int32.ofNat i0))]) hx hb dL_law_2247 hl (by decide) rfl (fun ls hl => ?_)
  refine lv_aload_n hx hb dL_law_2249 rfl (lv_at hl 4 rfl) ?_
  refine l_callV (As := []) (rest := []) hx hb hml hown hI (c_X12_thrown l w H.size M2 (M2 12 47 0) rfl) (kb_X12_thrown hI.1.T (q1496 hI.1.T) (Nat.le_trans (Nat.le_of_ble_eq_true rfl) hR.1) (Nat.le_trans (Nat.le_of_ble_eq_true rfl) hR.2.1)) (q1497 hI.1.T) (q1498 hI.1.T) (m_recv hI.1 (mokX (by decide) (by decide)) rfl rfl) rfl hl.1 (Nat.le_of_ble_eq_true rfl) dL_law_2250 ⟨(Nat.le_trans (Nat.add_le_add_left (Nat.le_of_ble_eq_true rfl) _) hR.2.2.1), (Nat.le_trans (Nat.add_le_add_left (Nat.le_of_ble_eq_true rfl) _) hR.2.2.2)⟩ (fun H locs hI => ?_)
  refine lv_iload hx hb dL_law_2253 (lv_at hl 1 rfl) ?_
  refine lv_icmp_eq (tgt := 2260) hx hb dL_law_2255 (by decide) (fun _ => ?_) (fun c2 => absurd hth c2)
  refine lv_iload hx hb dL_law_2260 (lv_at hl 1 rfl) ?_
  refine lv_if_ne (tgt := 2277) hx hb dL_law_2262 (by decide) (fun _ => ?_) (fun c2 => ?_)
  · refine lv_goto (tgt := 2998) hx hb dL_law_2277 (by decide) ?_
    exact kk H locs ls (lv_sub hl [2, 3, 4, 5, 6, 7] rfl) hI
  refine lv_aload_n hx hb dL_law_2265 rfl (lv_at hl 5 rfl) ?_
  refine lv_iconst (v := 0) hx hb dL_law_2266 (by decide) ?_
  refine l_lald hx hb hI dL_law_2267 ?_
  refine lv_iload hx hb dL_law_2268 (lv_at hl 0 rfl) ?_
  refine lv_i2l (v := r.toInt64) hx hb dL_law_2270 rfl ?_
  refine W.lcmp hx hb dL_law_2271 ?_
  refine lv_if_eq (tgt := 2277) hx hb dL_law_2272 (by decide) (fun _ => ?_) (fun c3 => absurd (by rw [hag c2]; exact lg_cmp0 _) c3)
  refine lv_goto (tgt := 2998) hx hb dL_law_2277 (by decide) ?_
  exact kk H locs ls (lv_sub hl [2, 3, 4, 5, 6, 7] rfl) hI
set_option maxRecDepth 100000 in
theorem l_c43 {p : Program} {l : Launch} {e : Env} {R : Room} {s : State} {m : MethodId} {args : Array Value} {below : List Frame} {meth : Method} {c : Code} {H : Heap} {locs : List Loc} {cells slots : Nat} {Q : State → Prop} {ls : Array Slot} {w : WD} {oL oD b L i0 : Nat} {xs : Nat → Int32} {cL cD : ClassId} {x : Int64} {y : UInt64} (hsf : l.stackTraces = false) (hx : p.tables.exec = Jvm.exec) (hb : c.code = cL_law) (hml : c.maxLocals = 10) (hown : s.vm.findClass "ShareVaultLaw" = some m.cls) (hR : 13 ≤ R.frames ∧ 400 ≤ R.locals ∧ cells + 2 ≤ R.cells ∧ slots + 12 ≤ R.slots) (hi : i0 + 4 < L) (hLL : L ≤ 2560) (hl : lv_has ls 10 (lLoc w b oL oD i0)) {M M2 : Mem} {o : Nat ⊕ Int32} {r k : Int32} {x1 : Int64} (hI : lI w s H locs oL oD cL cD x y b L xs M) (h1 : f_X11_logKind (xs (i0 + 1)) M = some o) (hres : hRes [(4, 1)] (fun v => v.toInt64) x o k x1) (h2 : f_X12_logKind (xs (i0 + 1)) M = some (r, M2)) (hth : M2 12 47 0 = k) (hag : k = 0 → x1 = r.toInt64) (kk : ∀ (H1 : Heap) (locs1 : List Loc) (ls1 : Array Slot), lv_has ls1 10 (lLoc w b oL oD i0) → lI w s H1 locs1 oL oD cL cD x1 y b L xs M2 → W p l e R s m args below meth c H1 locs1 (cells + 1) (slots + 6) Q (F0 m 2998 ls1 [])) : W p l e R s m args below meth c H locs cells slots Q (F0 m 2280 ls []) := by
  refine lv_aload_n hx hb dL_law_2280 rfl (lv_at hl 1 rfl) ?_
  refine l_arg (j := 1) hx hb hI hi hLL (by decide) (lv_at hl 0 rfl) (lv_at hl 5 rfl) dL_law_2281 (by decide) dL_law_2282 dL_law_2284 dL_law_2285 dL_law_2286 ?_
  refine lv_aload_n hx hb dL_law_2287 rfl (lv_at hl 3 rfl) ?_
  refine l_help (As := [.ref (w.1 12 16), .int (xs (i0 + 1)), .ref oL]) (rest := []) hx hb hml hown hI (h_logKind l w hsf H.size oL cL x (xs (i0 + 1)) M o h1 k x1 hres) (l_cw (n := 3) hI.1.T (tin5 (List.mem_of_getElem? (l := tables_1_5) (i := 190) rfl)) (q1148 hI.1.T) (q1149 hI.1.T) (q0 hI.1.T) (by decide +kernel) ⟨rfl, rfl, (Nat.le_trans (Nat.le_of_ble_eq_true rfl) hR.1), (Nat.le_trans (Nat.le_of_ble_eq_true rfl) hR.2.1)⟩) rfl hl.1 (Nat.le_of_ble_eq_true rfl) dL_law_2288 ⟨Nat.le_trans (Nat.add_le_add_left (Nat.le_of_ble_eq_true rfl) _) hR.2.2.1, Nat.le_trans (Nat.add_le_add_left (Nat.le_of_ble_eq_true rfl) _) hR.2.2.2⟩ (fun H locs hI => ?_)
  refine lv_istore (lv' := [(6, .int k), (0, .ref b), (1, .ref (w.1 12 16)), (2, .ref (w.1 12 47)), (3, .ref oL), (4, .ref oD), (5, .int (Int32.ofNat i0))]) hx hb dL_law_2291 hl (by decide) rfl (fun ls hl => ?_)
  refine lv_aload_n hx hb dL_law_2293 rfl (lv_at hl 3 rfl) ?_
  refine l_arg (j := 1) hx hb hI hi hLL (by decide) (lv_at hl 1 rfl) (lv_at hl 6 rfl) dL_law_2294 (by decide) dL_law_2295 dL_law_2297 dL_law_2298 dL_law_2299 ?_
  refine l_callV (As := [.int (xs (i0 + 1))]) (rest := []) hx hb hml hown hI (c_X12_logKind l w H.size (xs (i0 + 1)) M r M2 h2) (kb_X12_logKind hI.1.T (q1836 hI.1.T) (Nat.le_trans (Nat.le_of_ble_eq_true rfl) hR.1) (Nat.le_trans (Nat.le_of_ble_eq_true rfl) hR.2.1)) (q1837 hI.1.T) (q1838 hI.1.T) (m_recv hI.1 (mokX (by decide) (by decide)) rfl rfl) rfl hl.1 (Nat.le_of_ble_eq_true rfl) dL_law_2300 ⟨(Nat.le_trans (Nat.add_le_add_left (Nat.le_of_ble_eq_true rfl) _) hR.2.2.1), (Nat.le_trans (Nat.add_le_add_left (Nat.le_of_ble_eq_true rfl) _) hR.2.2.2)⟩ (fun H locs hI => ?_)
  refine lv_istore (lv' := [(7, .int r), (6, .int k), (0, .ref b), (1, .ref (w.1 12 16)), (2, .ref (w.1 12 47)), (3, .ref oL), (4, .ref oD), (5, .int (Int32.ofNat i0))]) hx hb dL_law_2303 hl (by decide) rfl (fun ls hl => ?_)
  refine lv_aload_n hx hb dL_law_2305 rfl (lv_at hl 4 rfl) ?_
  refine l_callV (As := []) (rest := []) hx hb hml hown hI (c_X12_thrown l w H.size M2 (M2 12 47 0) rfl) (kb_X12_thrown hI.1.T (q1496 hI.1.T) (Nat.le_trans (Nat.le_of_ble_eq_true rfl) hR.1) (Nat.le_trans (Nat.le_of_ble_eq_true rfl) hR.2.1)) (q1497 hI.1.T) (q1498 hI.1.T) (m_recv hI.1 (mokX (by decide) (by decide)) rfl rfl) rfl hl.1 (Nat.le_of_ble_eq_true rfl) dL_law_2306 ⟨(Nat.le_trans (Nat.add_le_add_left (Nat.le_of_ble_eq_true rfl) _) hR.2.2.1), (Nat.le_trans (Nat.add_le_add_left (Nat.le_of_ble_eq_true rfl) _) hR.2.2.2)⟩ (fun H locs hI => ?_)
  refine lv_iload hx hb dL_law_2309 (lv_at hl 1 rfl) ?_
  refine lv_icmp_eq (tgt := 2316) hx hb dL_law_2311 (by decide) (fun _ => ?_) (fun c2 => absurd hth c2)
  refine lv_iload hx hb dL_law_2316 (lv_at hl 1 rfl) ?_
  refine lv_if_ne (tgt := 2333) hx hb dL_law_2318 (by decide) (fun _ => ?_) (fun c2 => ?_)
  · refine lv_goto (tgt := 2998) hx hb dL_law_2333 (by decide) ?_
    exact kk H locs ls (lv_sub hl [2, 3, 4, 5, 6, 7] rfl) hI
  refine lv_aload_n hx hb dL_law_2321 rfl (lv_at hl 5 rfl) ?_
  refine lv_iconst (v := 0) hx hb dL_law_2322 (by decide) ?_
  refine l_lald hx hb hI dL_law_2323 ?_
  refine lv_iload hx hb dL_law_2324 (lv_at hl 0 rfl) ?_
  refine lv_i2l (v := r.toInt64) hx hb dL_law_2326 rfl ?_
  refine W.lcmp hx hb dL_law_2327 ?_
  refine lv_if_eq (tgt := 2333) hx hb dL_law_2328 (by decide) (fun _ => ?_) (fun c3 => absurd (by rw [hag c2]; exact lg_cmp0 _) c3)
  refine lv_goto (tgt := 2998) hx hb dL_law_2333 (by decide) ?_
  exact kk H locs ls (lv_sub hl [2, 3, 4, 5, 6, 7] rfl) hI
set_option maxRecDepth 100000 in
theorem l_c44 {p : Program} {l : Launch} {e : Env} {R : Room} {s : State} {m : MethodId} {args : Array Value} {below : List Frame} {meth : Method} {c : Code} {H : Heap} {locs : List Loc} {cells slots : Nat} {Q : State → Prop} {ls : Array Slot} {w : WD} {oL oD b L i0 : Nat} {xs : Nat → Int32} {cL cD : ClassId} {x : Int64} {y : UInt64} (hsf : l.stackTraces = false) (hx : p.tables.exec = Jvm.exec) (hb : c.code = cL_law) (hml : c.maxLocals = 10) (hown : s.vm.findClass "ShareVaultLaw" = some m.cls) (hR : 13 ≤ R.frames ∧ 400 ≤ R.locals ∧ cells + 2 ≤ R.cells ∧ slots + 12 ≤ R.slots) (hi : i0 + 4 < L) (hLL : L ≤ 2560) (hl : lv_has ls 10 (lLoc w b oL oD i0)) {M M2 : Mem} {o : Nat ⊕ Int32} {r k : Int32} {x1 : Int64} (hI : lI w s H locs oL oD cL cD x y b L xs M) (h1 : f_X11_logDetail (xs (i0 + 1)) M = some o) (hres : hRes [(4, 1)] (fun v => v.toInt64) x o k x1) (h2 : f_X12_logDetail (xs (i0 + 1)) M = some (r, M2)) (hth : M2 12 47 0 = k) (hag : k = 0 → x1 = r.toInt64) (kk : ∀ (H1 : Heap) (locs1 : List Loc) (ls1 : Array Slot), lv_has ls1 10 (lLoc w b oL oD i0) → lI w s H1 locs1 oL oD cL cD x1 y b L xs M2 → W p l e R s m args below meth c H1 locs1 (cells + 1) (slots + 6) Q (F0 m 2998 ls1 [])) : W p l e R s m args below meth c H locs cells slots Q (F0 m 2336 ls []) := by
  refine lv_aload_n hx hb dL_law_2336 rfl (lv_at hl 1 rfl) ?_
  refine l_arg (j := 1) hx hb hI hi hLL (by decide) (lv_at hl 0 rfl) (lv_at hl 5 rfl) dL_law_2337 (by decide) dL_law_2338 dL_law_2340 dL_law_2341 dL_law_2342 ?_
  refine lv_aload_n hx hb dL_law_2343 rfl (lv_at hl 3 rfl) ?_
  refine l_help (As := [.ref (w.1 12 16), .int (xs (i0 + 1)), .ref oL]) (rest := []) hx hb hml hown hI (h_logDetail l w hsf H.size oL cL x (xs (i0 + 1)) M o h1 k x1 hres) (l_cw (n := 3) hI.1.T (tin5 (List.mem_of_getElem? (l := tables_1_5) (i := 197) rfl)) (q1155 hI.1.T) (q1156 hI.1.T) (q0 hI.1.T) (by decide +kernel) ⟨rfl, rfl, (Nat.le_trans (Nat.le_of_ble_eq_true rfl) hR.1), (Nat.le_trans (Nat.le_of_ble_eq_true rfl) hR.2.1)⟩) rfl hl.1 (Nat.le_of_ble_eq_true rfl) dL_law_2344 ⟨Nat.le_trans (Nat.add_le_add_left (Nat.le_of_ble_eq_true rfl) _) hR.2.2.1, Nat.le_trans (Nat.add_le_add_left (Nat.le_of_ble_eq_true rfl) _) hR.2.2.2⟩ (fun H locs hI => ?_)
  refine lv_istore (lv' := [(6, .int k), (0, .ref b), (1, .ref (w.1 12 16)), (2, .ref (w.1 12 47)), (3, .ref oL), (4, .ref oD), (5, .int (Int32.ofNat i0))]) hx hb dL_law_2347 hl (by decide) rfl (fun ls hl => ?_)
  refine lv_aload_n hx hb dL_law_2349 rfl (lv_at hl 3 rfl) ?_
  refine l_arg (j := 1) hx hb hI hi hLL (by decide) (lv_at hl 1 rfl) (lv_at hl 6 rfl) dL_law_2350 (by decide) dL_law_2351 dL_law_2353 dL_law_2354 dL_law_2355 ?_
  refine l_callV (As := [.int (xs (i0 + 1))]) (rest := []) hx hb hml hown hI (c_X12_logDetail l w H.size (xs (i0 + 1)) M r M2 h2) (kb_X12_logDetail hI.1.T (q1840 hI.1.T) (Nat.le_trans (Nat.le_of_ble_eq_true rfl) hR.1) (Nat.le_trans (Nat.le_of_ble_eq_true rfl) hR.2.1)) (q1841 hI.1.T) (q1842 hI.1.T) (m_recv hI.1 (mokX (by decide) (by decide)) rfl rfl) rfl hl.1 (Nat.le_of_ble_eq_true rfl) dL_law_2356 ⟨(Nat.le_trans (Nat.add_le_add_left (Nat.le_of_ble_eq_true rfl) _) hR.2.2.1), (Nat.le_trans (Nat.add_le_add_left (Nat.le_of_ble_eq_true rfl) _) hR.2.2.2)⟩ (fun H locs hI => ?_)
  refine lv_istore (lv' := [(7, .int r), (6, .int k), (0, .ref b), (1, .ref (w.1 12 16)), (2, .ref (w.1 12 47)), (3, .ref oL), (4, .ref oD), (5, .int (Int32.ofNat i0))]) hx hb dL_law_2359 hl (by decide) rfl (fun ls hl => ?_)
  refine lv_aload_n hx hb dL_law_2361 rfl (lv_at hl 4 rfl) ?_
  refine l_callV (As := []) (rest := []) hx hb hml hown hI (c_X12_thrown l w H.size M2 (M2 12 47 0) rfl) (kb_X12_thrown hI.1.T (q1496 hI.1.T) (Nat.le_trans (Nat.le_of_ble_eq_true rfl) hR.1) (Nat.le_trans (Nat.le_of_ble_eq_true rfl) hR.2.1)) (q1497 hI.1.T) (q1498 hI.1.T) (m_recv hI.1 (mokX (by decide) (by decide)) rfl rfl) rfl hl.1 (Nat.le_of_ble_eq_true rfl) dL_law_2362 ⟨(Nat.le_trans (Nat.add_le_add_left (Nat.le_of_ble_eq_true rfl) _) hR.2.2.1), (Nat.le_trans (Nat.add_le_add_left (Nat.le_of_ble_eq_true rfl) _) hR.2.2.2)⟩ (fun H locs hI => ?_)
  refine lv_iload hx hb dL_law_2365 (lv_at hl 1 rfl) ?_
  refine lv_icmp_eq (tgt := 2372) hx hb dL_law_2367 (by decide) (fun _ => ?_) (fun c2 => absurd hth c2)
  refine lv_iload hx hb dL_law_2372 (lv_at hl 1 rfl) ?_
  refine lv_if_ne (tgt := 2389) hx hb dL_law_2374 (by decide) (fun _ => ?_) (fun c2 => ?_)
  · refine lv_goto (tgt := 2998) hx hb dL_law_2389 (by decide) ?_
    exact kk H locs ls (lv_sub hl [2, 3, 4, 5, 6, 7] rfl) hI
  refine lv_aload_n hx hb dL_law_2377 rfl (lv_at hl 5 rfl) ?_
  refine lv_iconst (v := 0) hx hb dL_law_2378 (by decide) ?_
  refine l_lald hx hb hI dL_law_2379 ?_
  refine lv_iload hx hb dL_law_2380 (lv_at hl 0 rfl) ?_
  refine lv_i2l (v := r.toInt64) hx hb dL_law_2382 rfl ?_
  refine W.lcmp hx hb dL_law_2383 ?_
  refine lv_if_eq (tgt := 2389) hx hb dL_law_2384 (by decide) (fun _ => ?_) (fun c3 => absurd (by rw [hag c2]; exact lg_cmp0 _) c3)
  refine lv_goto (tgt := 2998) hx hb dL_law_2389 (by decide) ?_
  exact kk H locs ls (lv_sub hl [2, 3, 4, 5, 6, 7] rfl) hI
set_option maxRecDepth 100000 in
theorem l_c45 {p : Program} {l : Launch} {e : Env} {R : Room} {s : State} {m : MethodId} {args : Array Value} {below : List Frame} {meth : Method} {c : Code} {H : Heap} {locs : List Loc} {cells slots : Nat} {Q : State → Prop} {ls : Array Slot} {w : WD} {oL oD b L i0 : Nat} {xs : Nat → Int32} {cL cD : ClassId} {x : Int64} {y : UInt64} (hsf : l.stackTraces = false) (hx : p.tables.exec = Jvm.exec) (hb : c.code = cL_law) (hml : c.maxLocals = 10) (hown : s.vm.findClass "ShareVaultLaw" = some m.cls) (hR : 13 ≤ R.frames ∧ 400 ≤ R.locals ∧ cells + 2 ≤ R.cells ∧ slots + 12 ≤ R.slots) (hi : i0 + 4 < L) (hLL : L ≤ 2560) (hl : lv_has ls 10 (lLoc w b oL oD i0)) {M M2 : Mem} {r : UInt64} (hI : lI w s H locs oL oD cL cD x y b L xs M) (h1 : f_X11_meanNoise M = some r) (h2 : f_X12_meanNoise M = some (r, M2)) (kk : ∀ (H1 : Heap) (locs1 : List Loc) (ls1 : Array Slot), lv_has ls1 10 (lLoc w b oL oD i0) → lI w s H1 locs1 oL oD cL cD x y b L xs M2 → W p l e R s m args below meth c H1 locs1 cells slots Q (F0 m 2998 ls1 [])) : W p l e R s m args below meth c H locs cells slots Q (F0 m 2392 ls []) := by
  refine lv_aload_n hx hb dL_law_2392 rfl (lv_at hl 1 rfl) ?_
  refine l_callV (As := []) (rest := []) hx hb hml hown hI (c_X11_meanNoise l w H.size M r h1) (kb_X11_meanNoise hI.1.T (q374 hI.1.T) (Nat.le_trans (Nat.le_of_ble_eq_true rfl) hR.1) (Nat.le_trans (Nat.le_of_ble_eq_true rfl) hR.2.1)) (q375 hI.1.T) (q376 hI.1.T) (m_recv hI.1 (mokX (by decide) (by decide)) rfl rfl) rfl hl.1 (Nat.le_of_ble_eq_true rfl) dL_law_2393 ⟨(Nat.le_trans (Nat.le_add_right _ _) hR.2.2.1), (Nat.le_trans (Nat.le_add_right _ _) hR.2.2.2)⟩ (fun H locs hI => ?_)
  refine lv_dstore (lv' := [(6, .double r), (0, .ref b), (1, .ref (w.1 12 16)), (2, .ref (w.1 12 47)), (3, .ref oL), (4, .ref oD), (5, .int (Int32.ofNat i0))]) hx hb dL_law_2396 hl (by decide) rfl (fun ls hl => ?_)
  refine lv_aload_n hx hb dL_law_2398 rfl (lv_at hl 3 rfl) ?_
  refine l_callV (As := []) (rest := []) hx hb hml hown hI (c_X12_meanNoise l w H.size M r M2 h2) (kb_X12_meanNoise hI.1.T (q1844 hI.1.T) (Nat.le_trans (Nat.le_of_ble_eq_true rfl) hR.1) (Nat.le_trans (Nat.le_of_ble_eq_true rfl) hR.2.1)) (q1845 hI.1.T) (q1846 hI.1.T) (m_recv hI.1 (mokX (by decide) (by decide)) rfl rfl) rfl hl.1 (Nat.le_of_ble_eq_true rfl) dL_law_2399 ⟨(Nat.le_trans (Nat.le_add_right _ _) hR.2.2.1), (Nat.le_trans (Nat.le_add_right _ _) hR.2.2.2)⟩ (fun H locs hI => ?_)
  refine lv_dstore (lv' := [(8, .double r), (6, .double r), (0, .ref b), (1, .ref (w.1 12 16)), (2, .ref (w.1 12 47)), (3, .ref oL), (4, .ref oD), (5, .int (Int32.ofNat i0))]) hx hb dL_law_2402 hl (by decide) rfl (fun ls hl => ?_)
  refine lv_dload hx hb dL_law_2404 (lv_at hl 1 rfl) ?_
  refine lv_dload hx hb dL_law_2406 (lv_at hl 0 rfl) ?_
  refine lv_dcmp hx hb dL_law_2408 ?_
  refine lv_if_eq (tgt := 2430) hx hb dL_law_2409 (by decide) (fun _ => ?_) (fun c2 => ?_)
  · refine lv_goto (tgt := 2998) hx hb dL_law_2430 (by decide) ?_
    exact kk H locs ls (lv_sub hl [2, 3, 4, 5, 6, 7] rfl) hI
  refine lv_dload hx hb dL_law_2412 (lv_at hl 1 rfl) ?_
  refine lv_dload hx hb dL_law_2414 (lv_at hl 1 rfl) ?_
  refine lv_dcmp hx hb dL_law_2416 ?_
  refine lv_if_eq (tgt := 2428) hx hb dL_law_2417 (by decide) (fun c3 => absurd c3 c2) (fun _ => ?_)
  refine lv_dload hx hb dL_law_2420 (lv_at hl 0 rfl) ?_
  refine lv_dload hx hb dL_law_2422 (lv_at hl 0 rfl) ?_
  refine lv_dcmp hx hb dL_law_2424 ?_
  refine lv_if_ne (tgt := 2430) hx hb dL_law_2425 (by decide) (fun _ => ?_) (fun c3 => absurd c3 c2)
  refine lv_goto (tgt := 2998) hx hb dL_law_2430 (by decide) ?_
  exact kk H locs ls (lv_sub hl [2, 3, 4, 5, 6, 7] rfl) hI
set_option maxRecDepth 100000 in
theorem l_c46 {p : Program} {l : Launch} {e : Env} {R : Room} {s : State} {m : MethodId} {args : Array Value} {below : List Frame} {meth : Method} {c : Code} {H : Heap} {locs : List Loc} {cells slots : Nat} {Q : State → Prop} {ls : Array Slot} {w : WD} {oL oD b L i0 : Nat} {xs : Nat → Int32} {cL cD : ClassId} {x : Int64} {y : UInt64} (hsf : l.stackTraces = false) (hx : p.tables.exec = Jvm.exec) (hb : c.code = cL_law) (hml : c.maxLocals = 10) (hown : s.vm.findClass "ShareVaultLaw" = some m.cls) (hR : 13 ≤ R.frames ∧ 400 ≤ R.locals ∧ cells + 2 ≤ R.cells ∧ slots + 12 ≤ R.slots) (hi : i0 + 4 < L) (hLL : L ≤ 2560) (hl : lv_has ls 10 (lLoc w b oL oD i0)) {M M2 : Mem} {o : Nat ⊕ UInt32} {r : UInt32} {k : Int32} {y1 : UInt64} (hI : lI w s H locs oL oD cL cD x y b L xs M) (h1 : f_X11_alarmShare (xs (i0 + 1)) M = some o) (hres : dRes [(2, 1), (6, 2)] y o k y1) (h2 : f_X12_alarmShare (xs (i0 + 1)) M = some (r, M2)) (hth : M2 12 47 0 = k) (hag : k = 0 → y1 = FP.f2d r ∧ vf_n64 (FP.f2d r) ∧ FP.dcmp (FP.f2d r) (FP.f2d r) = some .eq) (kk : ∀ (H1 : Heap) (locs1 : List Loc) (ls1 : Array Slot), lv_has ls1 10 (lLoc w b oL oD i0) → lI w s H1 locs1 oL oD cL cD x y1 b L xs M2 → W p l e R s m args below meth c H1 locs1 (cells + 2) (slots + 12) Q (F0 m 2998 ls1 [])) : W p l e R s m args below meth c H locs cells slots Q (F0 m 2433 ls []) := by
  refine lv_aload_n hx hb dL_law_2433 rfl (lv_at hl 1 rfl) ?_
  refine l_arg (j := 1) hx hb hI hi hLL (by decide) (lv_at hl 0 rfl) (lv_at hl 5 rfl) dL_law_2434 (by decide) dL_law_2435 dL_law_2437 dL_law_2438 dL_law_2439 ?_
  refine lv_aload hx hb dL_law_2440 (lv_at hl 4 rfl) ?_
  refine l_helpD (As := [.ref (w.1 12 16), .int (xs (i0 + 1)), .ref oD]) (rest := []) hx hb hml hown hI (h_alarmShare l w hsf H.size oD cD y (xs (i0 + 1)) M o h1 k y1 hres) (l_cw (n := 3) hI.1.T (tin5 (List.mem_of_getElem? (l := tables_1_5) (i := 204) rfl)) (q1162 hI.1.T) (q1163 hI.1.T) (q0 hI.1.T) (by decide +kernel) ⟨rfl, rfl, (Nat.le_trans (Nat.le_of_ble_eq_true rfl) hR.1), (Nat.le_trans (Nat.le_of_ble_eq_true rfl) hR.2.1)⟩) rfl hl.1 (Nat.le_of_ble_eq_true rfl) dL_law_2442 ⟨Nat.le_trans (Nat.add_le_add_left (Nat.le_of_ble_eq_true rfl) _) hR.2.2.1, Nat.le_trans (Nat.add_le_add_left (Nat.le_of_ble_eq_true rfl) _) hR.2.2.2⟩ (fun H locs hI => ?_)
  refine lv_istore (lv' := [(6, .int k), (0, .ref b), (1, .ref (w.1 12 16)), (2, .ref (w.1 12 47)), (3, .ref oL), (4, .ref oD), (5, .int (Int32.ofNat i0))]) hx hb dL_law_2445 hl (by decide) rfl (fun ls hl => ?_)
  refine lv_aload_n hx hb dL_law_2447 rfl (lv_at hl 3 rfl) ?_
  refine l_arg (j := 1) hx hb hI hi hLL (by decide) (lv_at hl 1 rfl) (lv_at hl 6 rfl) dL_law_2448 (by decide) dL_law_2449 dL_law_2451 dL_law_2452 dL_law_2453 ?_
  refine l_callV (As := [.int (xs (i0 + 1))]) (rest := []) hx hb hml hown hI (c_X12_alarmShare l w H.size (xs (i0 + 1)) M r M2 h2) (kb_X12_alarmShare hI.1.T (q1849 hI.1.T) (Nat.le_trans (Nat.le_of_ble_eq_true rfl) hR.1) (Nat.le_trans (Nat.le_of_ble_eq_true rfl) hR.2.1)) (q1850 hI.1.T) (q1851 hI.1.T) (m_recv hI.1 (mokX (by decide) (by decide)) rfl rfl) rfl hl.1 (Nat.le_of_ble_eq_true rfl) dL_law_2454 ⟨(Nat.le_trans (Nat.add_le_add_left (Nat.le_of_ble_eq_true rfl) _) hR.2.2.1), (Nat.le_trans (Nat.add_le_add_left (Nat.le_of_ble_eq_true rfl) _) hR.2.2.2)⟩ (fun H locs hI => ?_)
  refine lv_fstore (lv' := [(7, .float r), (6, .int k), (0, .ref b), (1, .ref (w.1 12 16)), (2, .ref (w.1 12 47)), (3, .ref oL), (4, .ref oD), (5, .int (Int32.ofNat i0))]) hx hb dL_law_2457 hl (by decide) rfl (fun ls hl => ?_)
  refine lv_aload_n hx hb dL_law_2459 rfl (lv_at hl 4 rfl) ?_
  refine l_callV (As := []) (rest := []) hx hb hml hown hI (c_X12_thrown l w H.size M2 (M2 12 47 0) rfl) (kb_X12_thrown hI.1.T (q1496 hI.1.T) (Nat.le_trans (Nat.le_of_ble_eq_true rfl) hR.1) (Nat.le_trans (Nat.le_of_ble_eq_true rfl) hR.2.1)) (q1497 hI.1.T) (q1498 hI.1.T) (m_recv hI.1 (mokX (by decide) (by decide)) rfl rfl) rfl hl.1 (Nat.le_of_ble_eq_true rfl) dL_law_2460 ⟨(Nat.le_trans (Nat.add_le_add_left (Nat.le_of_ble_eq_true rfl) _) hR.2.2.1), (Nat.le_trans (Nat.add_le_add_left (Nat.le_of_ble_eq_true rfl) _) hR.2.2.2)⟩ (fun H locs hI => ?_)
  refine lv_iload hx hb dL_law_2463 (lv_at hl 1 rfl) ?_
  refine lv_icmp_eq (tgt := 2470) hx hb dL_law_2465 (by decide) (fun _ => ?_) (fun c2 => absurd hth c2)
  refine lv_iload hx hb dL_law_2470 (lv_at hl 1 rfl) ?_
  refine lv_if_ne (tgt := 2508) hx hb dL_law_2472 (by decide) (fun _ => ?_) (fun c2 => ?_)
  · refine lv_goto (tgt := 2998) hx hb dL_law_2508 (by decide) ?_
    exact kk H locs ls (lv_sub hl [2, 3, 4, 5, 6, 7] rfl) hI
  obtain ⟨e1, e2, e3⟩ := hag c2
  refine lv_aload hx hb dL_law_2475 (lv_at hl 6 rfl) ?_
  refine lv_iconst (v := 0) hx hb dL_law_2477 (by decide) ?_
  refine l_dald hx hb hI dL_law_2478 ?_
  refine lv_fload hx hb dL_law_2479 (lv_at hl 0 rfl) ?_
  refine lv_f2d hx hb dL_law_2481 e2 ?_
  refine lv_dcmp hx hb dL_law_2482 ?_
  refine lv_if_eq (tgt := 2508) hx hb dL_law_2483 (by decide) (fun _ => ?_) (fun c3 => absurd (by rw [e1, e3]; rfl) c3)
  refine lv_goto (tgt := 2998) hx hb dL_law_2508 (by decide) ?_
  exact kk H locs ls (lv_sub hl [2, 3, 4, 5, 6, 7] rfl) hI
set_option maxRecDepth 100000 in
theorem l_c47 {p : Program} {l : Launch} {e : Env} {R : Room} {s : State} {m : MethodId} {args : Array Value} {below : List Frame} {meth : Method} {c : Code} {H : Heap} {locs : List Loc} {cells slots : Nat} {Q : State → Prop} {ls : Array Slot} {w : WD} {oL oD b L i0 : Nat} {xs : Nat → Int32} {cL cD : ClassId} {x : Int64} {y : UInt64} (hsf : l.stackTraces = false) (hx : p.tables.exec = Jvm.exec) (hb : c.code = cL_law) (hml : c.maxLocals = 10) (hown : s.vm.findClass "ShareVaultLaw" = some m.cls) (hR : 13 ≤ R.frames ∧ 400 ≤ R.locals ∧ cells + 2 ≤ R.cells ∧ slots + 12 ≤ R.slots) (hi : i0 + 4 < L) (hLL : L ≤ 2560) (hl : lv_has ls 10 (lLoc w b oL oD i0)) {M M1 M2 : Mem} {r : Int32} (hI : lI w s H locs oL oD cL cD x y b L xs M) (h1 : f_X11_isConsistent M = some (r, M1)) (h2 : f_X12_isConsistent M1 = some (r, M2)) (kk : ∀ (H1 : Heap) (locs1 : List Loc), lI w s H1 locs1 oL oD cL cD x y b L xs M2 → W p l e R s m args below meth c H1 locs1 cells slots Q (F0 m 2998 ls [])) : W p l e R s m args below meth c H locs cells slots Q (F0 m 2511 ls []) := by
  refine lv_aload_n hx hb dL_law_2511 rfl (lv_at hl 1 rfl) ?_
  refine l_callV (As := []) (rest := []) hx hb hml hown hI (c_X11_isConsistent l w H.size M r M1 h1) (kb_X11_isConsistent hI.1.T (q382 hI.1.T) (Nat.le_trans (Nat.le_of_ble_eq_true rfl) hR.1) (Nat.le_trans (Nat.le_of_ble_eq_true rfl) hR.2.1)) (q383 hI.1.T) (q384 hI.1.T) (m_recv hI.1 (mokX (by decide) (by decide)) rfl rfl) rfl hl.1 (Nat.le_of_ble_eq_true rfl) dL_law_2512 ⟨(Nat.le_trans (Nat.le_add_right _ _) hR.2.2.1), (Nat.le_trans (Nat.le_add_right _ _) hR.2.2.2)⟩ (fun H locs hI => ?_)
  refine lv_aload_n hx hb dL_law_2515 rfl (lv_at hl 2 rfl) ?_
  refine l_callV (As := []) (rest := [.int r]) hx hb hml hown hI (c_X12_isConsistent l w H.size M1 r M2 h2) (kb_X12_isConsistent hI.1.T (q1853 hI.1.T) (Nat.le_trans (Nat.le_of_ble_eq_true rfl) hR.1) (Nat.le_trans (Nat.le_of_ble_eq_true rfl) hR.2.1)) (q1854 hI.1.T) (q1855 hI.1.T) (m_recv hI.1 (mokX (by decide) (by decide)) rfl rfl) rfl hl.1 (Nat.le_of_ble_eq_true rfl) dL_law_2516 ⟨(Nat.le_trans (Nat.le_add_right _ _) hR.2.2.1), (Nat.le_trans (Nat.le_add_right _ _) hR.2.2.2)⟩ (fun H locs hI => ?_)
  refine lv_icmp_eq (tgt := 2998) hx hb dL_law_2519 (by decide) (fun _ => ?_) (fun c2 => absurd rfl c2)
  exact kk H locs hI
set_option maxRecDepth 100000 in
theorem l_c48 {p : Program} {l : Launch} {e : Env} {R : Room} {s : State} {m : MethodId} {args : Array Value} {below : List Frame} {meth : Method} {c : Code} {H : Heap} {locs : List Loc} {cells slots : Nat} {Q : State → Prop} {ls : Array Slot} {w : WD} {oL oD b L i0 : Nat} {xs : Nat → Int32} {cL cD : ClassId} {x : Int64} {y : UInt64} (hsf : l.stackTraces = false) (hx : p.tables.exec = Jvm.exec) (hb : c.code = cL_law) (hml : c.maxLocals = 10) (hown : s.vm.findClass "ShareVaultLaw" = some m.cls) (hR : 13 ≤ R.frames ∧ 400 ≤ R.locals ∧ cells + 2 ≤ R.cells ∧ slots + 12 ≤ R.slots) (hi : i0 + 4 < L) (hLL : L ≤ 2560) (hl : lv_has ls 10 (lLoc w b oL oD i0)) {M M2 : Mem} {o : Nat ⊕ Int32} {r k : Int32} {x1 : Int64} (hI : lI w s H locs oL oD cL cD x y b L xs M) (h1 : f_X11_refusalReason M = some o) (hres : hRes [(4, 1)] (fun v => v.toInt64) x o k x1) (h2 : f_X12_refusalReason M = some (r, M2)) (hth : M2 12 47 0 = k) (hag : k = 0 → x1 = r.toInt64) (kk : ∀ (H1 : Heap) (locs1 : List Loc) (ls1 : Array Slot), lv_has ls1 10 (lLoc w b oL oD i0) → lI w s H1 locs1 oL oD cL cD x1 y b L xs M2 → W p l e R s m args below meth c H1 locs1 (cells + 1) (slots + 6) Q (F0 m 2998 ls1 [])) : W p l e R s m args below meth c H locs cells slots Q (F0 m 2524 ls []) := by
  refine lv_aload_n hx hb dL_law_2524 rfl (lv_at hl 1 rfl) ?_
  refine lv_aload_n hx hb dL_law_2525 rfl (lv_at hl 3 rfl) ?_
  refine l_help (As := [.ref (w.1 12 16), .ref oL]) (rest := []) hx hb hml hown hI (h_refusalReason l w hsf H.size oL cL x M o h1 k x1 hres) (l_cw (n := 2) hI.1.T (tin5 (List.mem_of_getElem? (l := tables_1_5) (i := 228) rfl)) (q1186 hI.1.T) (q1187 hI.1.T) (q0 hI.1.T) (by decide +kernel) ⟨rfl, rfl, (Nat.le_trans (Nat.le_of_ble_eq_true rfl) hR.1), (Nat.le_trans (Nat.le_of_ble_eq_true rfl) hR.2.1)⟩) rfl hl.1 (Nat.le_of_ble_eq_true rfl) dL_law_2526 ⟨Nat.le_trans (Nat.add_le_add_left (Nat.le_of_ble_eq_true rfl) _) hR.2.2.1, Nat.le_trans (Nat.add_le_add_left (Nat.le_of_ble_eq_true rfl) _) hR.2.2.2⟩ (fun H locs hI => ?_)
  refine lv_istore (lv' := [(6, .int k), (0, .ref b), (1, .ref (w.1 12 16)), (2, .ref (w.1 12 47)), (3, .ref oL), (4, .ref oD), (5, .int (Int32.ofNat i0))]) hx hb dL_law_2529 hl (by decide) rfl (fun ls hl => ?_)
  refine lv_aload_n hx hb dL_law_2531 rfl (lv_at hl 3 rfl) ?_
  refine l_callV (As := []) (rest := []) hx hb hml hown hI (c_X12_refusalReason l w H.size M r M2 h2) (kb_X12_refusalReason hI.1.T (q1857 hI.1.T) (Nat.le_trans (Nat.le_of_ble_eq_true rfl) hR.1) (Nat.le_trans (Nat.le_of_ble_eq_true rfl) hR.2.1)) (q1858 hI.1.T) (q1859 hI.1.T) (m_recv hI.1 (mokX (by decide) (by decide)) rfl rfl) rfl hl.1 (Nat.le_of_ble_eq_true rfl) dL_law_2532 ⟨(Nat.le_trans (Nat.add_le_add_left (Nat.le_of_ble_eq_true rfl) _) hR.2.2.1), (Nat.le_trans (Nat.add_le_add_left (Nat.le_of_ble_eq_true rfl) _) hR.2.2.2)⟩ (fun H locs hI => ?_)
  refine lv_istore (lv' := [(7, .int r), (6, .int k), (0, .ref b), (1, .ref (w.1 12 16)), (2, .ref (w.1 12 47)), (3, .ref oL), (4, .ref oD), (5, .int (Int32.ofNat i0))]) hx hb dL_law_2535 hl (by decide) rfl (fun ls hl => ?_)
  refine lv_aload_n hx hb dL_law_2537 rfl (lv_at hl 4 rfl) ?_
  refine l_callV (As := []) (rest := []) hx hb hml hown hI (c_X12_thrown l w H.size M2 (M2 12 47 0) rfl) (kb_X12_thrown hI.1.T (q1496 hI.1.T) (Nat.le_trans (Nat.le_of_ble_eq_true rfl) hR.1) (Nat.le_trans (Nat.le_of_ble_eq_true rfl) hR.2.1)) (q1497 hI.1.T) (q1498 hI.1.T) (m_recv hI.1 (mokX (by decide) (by decide)) rfl rfl) rfl hl.1 (Nat.le_of_ble_eq_true rfl) dL_law_2538 ⟨(Nat.le_trans (Nat.add_le_add_left (Nat.le_of_ble_eq_true rfl) _) hR.2.2.1), (Nat.le_trans (Nat.add_le_add_left (Nat.le_of_ble_eq_true rfl) _) hR.2.2.2)⟩ (fun H locs hI => ?_)
  refine lv_iload hx hb dL_law_2541 (lv_at hl 1 rfl) ?_
  refine lv_icmp_eq (tgt := 2548) hx hb dL_law_2543 (by decide) (fun _ => ?_) (fun c2 => absurd hth c2)
  refine lv_iload hx hb dL_law_2548 (lv_at hl 1 rfl) ?_
  refine lv_if_ne (tgt := 2565) hx hb dL_law_2550 (by decide) (fun _ => ?_) (fun c2 => ?_)
  · refine lv_goto (tgt := 2998) hx hb dL_law_2565 (by decide) ?_
    exact kk H locs ls (lv_sub hl [2, 3, 4, 5, 6, 7] rfl) hI
  refine lv_aload_n hx hb dL_law_2553 rfl (lv_at hl 5 rfl) ?_
  refine lv_iconst (v := 0) hx hb dL_law_2554 (by decide) ?_
  refine l_lald hx hb hI dL_law_2555 ?_
  refine lv_iload hx hb dL_law_2556 (lv_at hl 0 rfl) ?_
  refine lv_i2l (v := r.toInt64) hx hb dL_law_2558 rfl ?_
  refine W.lcmp hx hb dL_law_2559 ?_
  refine lv_if_eq (tgt := 2565) hx hb dL_law_2560 (by decide) (fun _ => ?_) (fun c3 => absurd (by rw [hag c2]; exact lg_cmp0 _) c3)
  refine lv_goto (tgt := 2998) hx hb dL_law_2565 (by decide) ?_
  exact kk H locs ls (lv_sub hl [2, 3, 4, 5, 6, 7] rfl) hI
set_option maxRecDepth 100000 in
theorem l_c49 {p : Program} {l : Launch} {e : Env} {R : Room} {s : State} {m : MethodId} {args : Array Value} {below : List Frame} {meth : Method} {c : Code} {H : Heap} {locs : List Loc} {cells slots : Nat} {Q : State → Prop} {ls : Array Slot} {w : WD} {oL oD b L i0 : Nat} {xs : Nat → Int32} {cL cD : ClassId} {x : Int64} {y : UInt64} (hsf : l.stackTraces = false) (hx : p.tables.exec = Jvm.exec) (hb : c.code = cL_law) (hml : c.maxLocals = 10) (hown : s.vm.findClass "ShareVaultLaw" = some m.cls) (hR : 13 ≤ R.frames ∧ 400 ≤ R.locals ∧ cells + 2 ≤ R.cells ∧ slots + 12 ≤ R.slots) (hi : i0 + 4 < L) (hLL : L ≤ 2560) (hl : lv_has ls 10 (lLoc w b oL oD i0)) {M M2 : Mem} {o : Nat ⊕ Int32} {r k : Int32} {x1 : Int64} (hI : lI w s H locs oL oD cL cD x y b L xs M) (h1 : f_X11_refusalDetail M = some o) (hres : hRes [(4, 1)] (fun v => v.toInt64) x o k x1) (h2 : f_X12_refusalDetail M = some (r, M2)) (hth : M2 12 47 0 = k) (hag : k = 0 → x1 = r.toInt64) (kk : ∀ (H1 : Heap) (locs1 : List Loc) (ls1 : Array Slot), lv_has ls1 10 (lLoc w b oL oD i0) → lI w s H1 locs1 oL oD cL cD x1 y b L xs M2 → W p l e R s m args below meth c H1 locs1 (cells + 1) (slots + 6) Q (F0 m 2998 ls1 [])) : W p l e R s m args below meth c H locs cells slots Q (F0 m 2568 ls []) := by
  refine lv_aload_n hx hb dL_law_2568 rfl (lv_at hl 1 rfl) ?_
  refine lv_aload_n hx hb dL_law_2569 rfl (lv_at hl 3 rfl) ?_
  refine l_help (As := [.ref (w.1 12 16), .ref oL]) (rest := []) hx hb hml hown hI (h_refusalDetail l w hsf H.size oL cL x M o h1 k x1 hres) (l_cw (n := 2) hI.1.T (tin6 (List.mem_of_getElem? (l := tables_1_6) (i := 0) rfl)) (q1198 hI.1.T) (q1199 hI.1.T) (q0 hI.1.T) (by decide +kernel) ⟨rfl, rfl, (Nat.le_trans (Nat.le_of_ble_eq_true rfl) hR.1), (Nat.le_trans (Nat.le_of_ble_eq_true rfl) hR.2.1)⟩) rfl hl.1 (Nat.le_of_ble_eq_true rfl) dL_law_2570 ⟨Nat.le_trans (Nat.add_le_add_left (Nat.le_of_ble_eq_true rfl) _) hR.2.2.1, Nat.le_trans (Nat.add_le_add_left (Nat.le_of_ble_eq_true rfl) _) hR.2.2.2⟩ (fun H locs hI => ?_)
  refine lv_istore (lv' := [(6, .int k), (0, .ref b), (1, .ref (w.1 12 16)), (2, .ref (w.1 12 47)), (3, .ref oL), (4, .ref oD), (5, .int (Int32.ofNat i0))]) hx hb dL_law_2573 hl (by decide) rfl (fun ls hl => ?_)
  refine lv_aload_n hx hb dL_law_2575 rfl (lv_at hl 3 rfl) ?_
  refine l_callV (As := []) (rest := []) hx hb hml hown hI (c_X12_refusalDetail l w H.size M r M2 h2) (kb_X12_refusalDetail hI.1.T (q1861 hI.1.T) (Nat.le_trans (Nat.le_of_ble_eq_true rfl) hR.1) (Nat.le_trans (Nat.le_of_ble_eq_true rfl) hR.2.1)) (q1862 hI.1.T) (q1863 hI.1.T) (m_recv hI.1 (mokX (by decide) (by decide)) rfl rfl) rfl hl.1 (Nat.le_of_ble_eq_true rfl) dL_law_2576 ⟨(Nat.le_trans (Nat.add_le_add_left (Nat.le_of_ble_eq_true rfl) _) hR.2.2.1), (Nat.le_trans (Nat.add_le_add_left (Nat.le_of_ble_eq_true rfl) _) hR.2.2.2)⟩ (fun H locs hI => ?_)
  refine lv_istore (lv' := [(7, .int r), (6, .int k), (0, .ref b), (1, .ref (w.1 12 16)), (2, .ref (w.1 12 47)), (3, .ref oL), (4, .ref oD), (5, .int (Int32.ofNat i0))]) hx hb dL_law_2579 hl (by decide) rfl (fun ls hl => ?_)
  refine lv_aload_n hx hb dL_law_2581 rfl (lv_at hl 4 rfl) ?_
  refine l_callV (As := []) (rest := []) hx hb hml hown hI (c_X12_thrown l w H.size M2 (M2 12 47 0) rfl) (kb_X12_thrown hI.1.T (q1496 hI.1.T) (Nat.le_trans (Nat.le_of_ble_eq_true rfl) hR.1) (Nat.le_trans (Nat.le_of_ble_eq_true rfl) hR.2.1)) (q1497 hI.1.T) (q1498 hI.1.T) (m_recv hI.1 (mokX (by decide) (by decide)) rfl rfl) rfl hl.1 (Nat.le_of_ble_eq_true rfl) dL_law_2582 ⟨(Nat.le_trans (Nat.add_le_add_left (Nat.le_of_ble_eq_true rfl) _) hR.2.2.1), (Nat.le_trans (Nat.add_le_add_left (Nat.le_of_ble_eq_true rfl) _) hR.2.2.2)⟩ (fun H locs hI => ?_)
  refine lv_iload hx hb dL_law_2585 (lv_at hl 1 rfl) ?_
  refine lv_icmp_eq (tgt := 2592) hx hb dL_law_2587 (by decide) (fun _ => ?_) (fun c2 => absurd hth c2)
  refine lv_iload hx hb dL_law_2592 (lv_at hl 1 rfl) ?_
  refine lv_if_ne (tgt := 2609) hx hb dL_law_2594 (by decide) (fun _ => ?_) (fun c2 => ?_)
  · refine lv_goto (tgt := 2998) hx hb dL_law_2609 (by decide) ?_
    exact kk H locs ls (lv_sub hl [2, 3, 4, 5, 6, 7] rfl) hI
  refine lv_aload_n hx hb dL_law_2597 rfl (lv_at hl 5 rfl) ?_
  refine lv_iconst (v := 0) hx hb dL_law_2598 (by decide) ?_
  refine l_lald hx hb hI dL_law_2599 ?_
  refine lv_iload hx hb dL_law_2600 (lv_at hl 0 rfl) ?_
  refine lv_i2l (v := r.toInt64) hx hb dL_law_2602 rfl ?_
  refine W.lcmp hx hb dL_law_2603 ?_
  refine lv_if_eq (tgt := 2609) hx hb dL_law_2604 (by decide) (fun _ => ?_) (fun c3 => absurd (by rw [hag c2]; exact lg_cmp0 _) c3)
  refine lv_goto (tgt := 2998) hx hb dL_law_2609 (by decide) ?_
  exact kk H locs ls (lv_sub hl [2, 3, 4, 5, 6, 7] rfl) hI
set_option maxRecDepth 100000 in
theorem l_c50 {p : Program} {l : Launch} {e : Env} {R : Room} {s : State} {m : MethodId} {args : Array Value} {below : List Frame} {meth : Method} {c : Code} {H : Heap} {locs : List Loc} {cells slots : Nat} {Q : State → Prop} {ls : Array Slot} {w : WD} {oL oD b L i0 : Nat} {xs : Nat → Int32} {cL cD : ClassId} {x : Int64} {y : UInt64} (hsf : l.stackTraces = false) (hx : p.tables.exec = Jvm.exec) (hb : c.code = cL_law) (hml : c.maxLocals = 10) (hown : s.vm.findClass "ShareVaultLaw" = some m.cls) (hR : 13 ≤ R.frames ∧ 400 ≤ R.locals ∧ cells + 2 ≤ R.cells ∧ slots + 12 ≤ R.slots) (hi : i0 + 4 < L) (hLL : L ≤ 2560) (hl : lv_has ls 10 (lLoc w b oL oD i0)) {M M2 : Mem} {o : Nat ⊕ Int32} {r k : Int32} {x1 : Int64} (hI : lI w s H locs oL oD cL cD x y b L xs M) (h1 : f_X11_refusalCause M = some o) (hres : hRes [(4, 1)] (fun v => v.toInt64) x o k x1) (h2 : f_X12_refusalCause M = some (r, M2)) (hth : M2 12 47 0 = k) (hag : k = 0 → x1 = r.toInt64) (kk : ∀ (H1 : Heap) (locs1 : List Loc) (ls1 : Array Slot), lv_has ls1 10 (lLoc w b oL oD i0) → lI w s H1 locs1 oL oD cL cD x1 y b L xs M2 → W p l e R s m args below meth c H1 locs1 (cells + 1) (slots + 6) Q (F0 m 2998 ls1 [])) : W p l e R s m args below meth c H locs cells slots Q (F0 m 2612 ls []) := by
  refine lv_aload_n hx hb dL_law_2612 rfl (lv_at hl 1 rfl) ?_
  refine lv_aload_n hx hb dL_law_2613 rfl (lv_at hl 3 rfl) ?_
  refine l_help (As := [.ref (w.1 12 16), .ref oL]) (rest := []) hx hb hml hown hI (h_refusalCause l w hsf H.size oL cL x M o h1 k x1 hres) (l_cw (n := 2) hI.1.T (tin6 (List.mem_of_getElem? (l := tables_1_6) (i := 7) rfl)) (q1205 hI.1.T) (q1206 hI.1.T) (q0 hI.1.T) (by decide +kernel) ⟨rfl, rfl, (Nat.le_trans (Nat.le_of_ble_eq_true rfl) hR.1), (Nat.le_trans (Nat.le_of_ble_eq_true rfl) hR.2.1)⟩) rfl hl.1 (Nat.le_of_ble_eq_true rfl) dL_law_2614 ⟨Nat.le_trans (Nat.add_le_add_left (Nat.le_of_ble_eq_true rfl) _) hR.2.2.1, Nat.le_trans (Nat.add_le_add_left (Nat.le_of_ble_eq_true rfl) _) hR.2.2.2⟩ (fun H locs hI => ?_)
  refine lv_istore (lv' := [(6, .int k), (0, .ref b), (1, .ref (w.1 12 16)), (2, .ref (w.1 12 47)), (3, .ref oL), (4, .ref oD), (5, .int (Int32.ofNat i0))]) hx hb dL_law_2617 hl (by decide) rfl (fun ls hl => ?_)
  refine lv_aload_n hx hb dL_law_2619 rfl (lv_at hl 3 rfl) ?_
  refine l_callV (As := []) (rest := []) hx hb hml hown hI (c_X12_refusalCause l w H.size M r M2 h2) (kb_X12_refusalCause hI.1.T (q1865 hI.1.T) (Nat.le_trans (Nat.le_of_ble_eq_true rfl) hR.1) (Nat.le_trans (Nat.le_of_ble_eq_true rfl) hR.2.1)) (q1866 hI.1.T) (q1867 hI.1.T) (m_recv hI.1 (mokX (by decide) (by decide)) rfl rfl) rfl hl.1 (Nat.le_of_ble_eq_true rfl) dL_law_2620 ⟨(Nat.le_trans (Nat.add_le_add_left (Nat.le_of_ble_eq_true rfl) _) hR.2.2.1), (Nat.le_trans (Nat.add_le_add_left (Nat.le_of_ble_eq_true rfl) _) hR.2.2.2)⟩ (fun H locs hI => ?_)
  refine lv_istore (lv' := [(7, .int r), (6, .int k), (0, .ref b), (1, .ref (w.1 12 16)), (2, .ref (w.1 12 47)), (3, .ref oL), (4, .ref oD), (5, .int (Int32.ofNat i0))]) hx hb dL_law_2623 hl (by decide) rfl (fun ls hl => ?_)
  refine lv_aload_n hx hb dL_law_2625 rfl (lv_at hl 4 rfl) ?_
  refine l_callV (As := []) (rest := []) hx hb hml hown hI (c_X12_thrown l w H.size M2 (M2 12 47 0) rfl) (kb_X12_thrown hI.1.T (q1496 hI.1.T) (Nat.le_trans (Nat.le_of_ble_eq_true rfl) hR.1) (Nat.le_trans (Nat.le_of_ble_eq_true rfl) hR.2.1)) (q1497 hI.1.T) (q1498 hI.1.T) (m_recv hI.1 (mokX (by decide) (by decide)) rfl rfl) rfl hl.1 (Nat.le_of_ble_eq_true rfl) dL_law_2626 ⟨(Nat.le_trans (Nat.add_le_add_left (Nat.le_of_ble_eq_true rfl) _) hR.2.2.1), (Nat.le_trans (Nat.add_le_add_left (Nat.le_of_ble_eq_true rfl) _) hR.2.2.2)⟩ (fun H locs hI => ?_)
  refine lv_iload hx hb dL_law_2629 (lv_at hl 1 rfl) ?_
  refine lv_icmp_eq (tgt := 2636) hx hb dL_law_2631 (by decide) (fun _ => ?_) (fun c2 => absurd hth c2)
  refine lv_iload hx hb dL_law_2636 (lv_at hl 1 rfl) ?_
  refine lv_if_ne (tgt := 2653) hx hb dL_law_2638 (by decide) (fun _ => ?_) (fun c2 => ?_)
  · refine lv_goto (tgt := 2998) hx hb dL_law_2653 (by decide) ?_
    exact kk H locs ls (lv_sub hl [2, 3, 4, 5, 6, 7] rfl) hI
  refine lv_aload_n hx hb dL_law_2641 rfl (lv_at hl 5 rfl) ?_
  refine lv_iconst (v := 0) hx hb dL_law_2642 (by decide) ?_
  refine l_lald hx hb hI dL_law_2643 ?_
  refine lv_iload hx hb dL_law_2644 (lv_at hl 0 rfl) ?_
  refine lv_i2l (v := r.toInt64) hx hb dL_law_2646 rfl ?_
  refine W.lcmp hx hb dL_law_2647 ?_
  refine lv_if_eq (tgt := 2653) hx hb dL_law_2648 (by decide) (fun _ => ?_) (fun c3 => absurd (by rw [hag c2]; exact lg_cmp0 _) c3)
  refine lv_goto (tgt := 2998) hx hb dL_law_2653 (by decide) ?_
  exact kk H locs ls (lv_sub hl [2, 3, 4, 5, 6, 7] rfl) hI
set_option maxRecDepth 100000 in
theorem l_c51 {p : Program} {l : Launch} {e : Env} {R : Room} {s : State} {m : MethodId} {args : Array Value} {below : List Frame} {meth : Method} {c : Code} {H : Heap} {locs : List Loc} {cells slots : Nat} {Q : State → Prop} {ls : Array Slot} {w : WD} {oL oD b L i0 : Nat} {xs : Nat → Int32} {cL cD : ClassId} {x : Int64} {y : UInt64} (hsf : l.stackTraces = false) (hx : p.tables.exec = Jvm.exec) (hb : c.code = cL_law) (hml : c.maxLocals = 10) (hown : s.vm.findClass "ShareVaultLaw" = some m.cls) (hR : 13 ≤ R.frames ∧ 400 ≤ R.locals ∧ cells + 2 ≤ R.cells ∧ slots + 12 ≤ R.slots) (hi : i0 + 4 < L) (hLL : L ≤ 2560) (hl : lv_has ls 10 (lLoc w b oL oD i0)) {M M1 M2 : Mem} {o : Nat ⊕ Int32} {r k : Int32} {x1 : Int64} (hI : lI w s H locs oL oD cL cD x y b L xs M) (h1 : f_X11_feed (lI2C (xs (i0 + 1))) M = some (o, M1)) (hres : hRes [(5, 1)] (fun v => v.toInt64) x o k x1) (h2 : f_X12_feed (lI2C (xs (i0 + 1))) M1 = some (r, M2)) (hth : M2 12 47 0 = k) (hag : k = 0 → x1 = r.toInt64) (kk : ∀ (H1 : Heap) (locs1 : List Loc) (ls1 : Array Slot), lv_has ls1 10 (lLoc w b oL oD i0) → lI w s H1 locs1 oL oD cL cD x1 y b L xs M2 → W p l e R s m args below meth c H1 locs1 (cells + 1) (slots + 6) Q (F0 m 2998 ls1 [])) : W p l e R s m args below meth c H locs cells slots Q (F0 m 2656 ls []) := by
  refine lv_aload_n hx hb dL_law_2656 rfl (lv_at hl 1 rfl) ?_
  refine l_arg (j := 1) hx hb hI hi hLL (by decide) (lv_at hl 0 rfl) (lv_at hl 5 rfl) dL_law_2657 (by decide) dL_law_2658 dL_law_2660 dL_law_2661 dL_law_2662 ?_
  refine lv_i2c (v := lI2C (xs (i0 + 1))) hx hb dL_law_2663 rfl ?_
  refine lv_aload_n hx hb dL_law_2664 rfl (lv_at hl 3 rfl) ?_
  refine l_help (As := [.ref (w.1 12 16), .int (lI2C (xs (i0 + 1))), .ref oL]) (rest := []) hx hb hml hown hI (h_feed l w hsf H.size oL cL x (lI2C (xs (i0 + 1))) M o M1 h1 k x1 hres) (l_cw (n := 3) hI.1.T (tin6 (List.mem_of_getElem? (l := tables_1_6) (i := 15) rfl)) (q1213 hI.1.T) (q1214 hI.1.T) (q0 hI.1.T) (by decide +kernel) ⟨rfl, rfl, (Nat.le_trans (Nat.le_of_ble_eq_true rfl) hR.1), (Nat.le_trans (Nat.le_of_ble_eq_true rfl) hR.2.1)⟩) rfl hl.1 (Nat.le_of_ble_eq_true rfl) dL_law_2665 ⟨Nat.le_trans (Nat.add_le_add_left (Nat.le_of_ble_eq_true rfl) _) hR.2.2.1, Nat.le_trans (Nat.add_le_add_left (Nat.le_of_ble_eq_true rfl) _) hR.2.2.2⟩ (fun H locs hI => ?_)
  refine lv_istore (lv' := [(6, .int k), (0, .ref b), (1, .ref (w.1 12 16)), (2, .ref (w.1 12 47)), (3, .ref oL), (4, .ref oD), (5, .int (Int32.ofNat i0))]) hx hb dL_law_2668 hl (by decide) rfl (fun ls hl => ?_)
  refine lv_aload_n hx hb dL_law_2670 rfl (lv_at hl 3 rfl) ?_
  refine l_arg (j := 1) hx hb hI hi hLL (by decide) (lv_at hl 1 rfl) (lv_at hl 6 rfl) dL_law_2671 (by decide) dL_law_2672 dL_law_2674 dL_law_2675 dL_law_2676 ?_
  refine lv_i2c (v := lI2C (xs (i0 + 1))) hx hb dL_law_2677 rfl ?_
  refine l_callV (As := [.int (lI2C (xs (i0 + 1)))]) (rest := []) hx hb hml hown hI (c_X12_feed l w H.size (lI2C (xs (i0 + 1))) M1 r M2 h2) (kb_X12_feed hI.1.T (q1869 hI.1.T) (Nat.le_trans (Nat.le_of_ble_eq_true rfl) hR.1) (Nat.le_trans (Nat.le_of_ble_eq_true rfl) hR.2.1)) (q1870 hI.1.T) (q1871 hI.1.T) (m_recv hI.1 (mokX (by decide) (by decide)) rfl rfl) rfl hl.1 (Nat.le_of_ble_eq_true rfl) dL_law_2678 ⟨(Nat.le_trans (Nat.add_le_add_left (Nat.le_of_ble_eq_true rfl) _) hR.2.2.1), (Nat.le_trans (Nat.add_le_add_left (Nat.le_of_ble_eq_true rfl) _) hR.2.2.2)⟩ (fun H locs hI => ?_)
  refine lv_istore (lv' := [(7, .int r), (6, .int k), (0, .ref b), (1, .ref (w.1 12 16)), (2, .ref (w.1 12 47)), (3, .ref oL), (4, .ref oD), (5, .int (Int32.ofNat i0))]) hx hb dL_law_2681 hl (by decide) rfl (fun ls hl => ?_)
  refine lv_aload_n hx hb dL_law_2683 rfl (lv_at hl 4 rfl) ?_
  refine l_callV (As := []) (rest := []) hx hb hml hown hI (c_X12_thrown l w H.size M2 (M2 12 47 0) rfl) (kb_X12_thrown hI.1.T (q1496 hI.1.T) (Nat.le_trans (Nat.le_of_ble_eq_true rfl) hR.1) (Nat.le_trans (Nat.le_of_ble_eq_true rfl) hR.2.1)) (q1497 hI.1.T) (q1498 hI.1.T) (m_recv hI.1 (mokX (by decide) (by decide)) rfl rfl) rfl hl.1 (Nat.le_of_ble_eq_true rfl) dL_law_2684 ⟨(Nat.le_trans (Nat.add_le_add_left (Nat.le_of_ble_eq_true rfl) _) hR.2.2.1), (Nat.le_trans (Nat.add_le_add_left (Nat.le_of_ble_eq_true rfl) _) hR.2.2.2)⟩ (fun H locs hI => ?_)
  refine lv_iload hx hb dL_law_2687 (lv_at hl 1 rfl) ?_
  refine lv_icmp_eq (tgt := 2694) hx hb dL_law_2689 (by decide) (fun _ => ?_) (fun c2 => absurd hth c2)
  refine lv_iload hx hb dL_law_2694 (lv_at hl 1 rfl) ?_
  refine lv_if_ne (tgt := 2711) hx hb dL_law_2696 (by decide) (fun _ => ?_) (fun c2 => ?_)
  · refine lv_goto (tgt := 2998) hx hb dL_law_2711 (by decide) ?_
    exact kk H locs ls (lv_sub hl [2, 3, 4, 5, 6, 7] rfl) hI
  refine lv_aload_n hx hb dL_law_2699 rfl (lv_at hl 5 rfl) ?_
  refine lv_iconst (v := 0) hx hb dL_law_2700 (by decide) ?_
  refine l_lald hx hb hI dL_law_2701 ?_
  refine lv_iload hx hb dL_law_2702 (lv_at hl 0 rfl) ?_
  refine lv_i2l (v := r.toInt64) hx hb dL_law_2704 rfl ?_
  refine W.lcmp hx hb dL_law_2705 ?_
  refine lv_if_eq (tgt := 2711) hx hb dL_law_2706 (by decide) (fun _ => ?_) (fun c3 => absurd (by rw [hag c2]; exact lg_cmp0 _) c3)
  refine lv_goto (tgt := 2998) hx hb dL_law_2711 (by decide) ?_
  exact kk H locs ls (lv_sub hl [2, 3, 4, 5, 6, 7] rfl) hI
set_option maxRecDepth 100000 in
theorem l_c52 {p : Program} {l : Launch} {e : Env} {R : Room} {s : State} {m : MethodId} {args : Array Value} {below : List Frame} {meth : Method} {c : Code} {H : Heap} {locs : List Loc} {cells slots : Nat} {Q : State → Prop} {ls : Array Slot} {w : WD} {oL oD b L i0 : Nat} {xs : Nat → Int32} {cL cD : ClassId} {x : Int64} {y : UInt64} (hsf : l.stackTraces = false) (hx : p.tables.exec = Jvm.exec) (hb : c.code = cL_law) (hml : c.maxLocals = 10) (hown : s.vm.findClass "ShareVaultLaw" = some m.cls) (hR : 13 ≤ R.frames ∧ 400 ≤ R.locals ∧ cells + 2 ≤ R.cells ∧ slots + 12 ≤ R.slots) (hi : i0 + 4 < L) (hLL : L ≤ 2560) (hl : lv_has ls 10 (lLoc w b oL oD i0)) {M M1 M2 : Mem} {o : Nat ⊕ Int32} {r k : Int32} {x1 : Int64} (hI : lI w s H locs oL oD cL cD x y b L xs M) (h1 : f_X11_runCommands M = some (o, M1)) (hres : hRes [(2, 1), (3, 2)] (fun v => v.toInt64) x o k x1) (h2 : f_X12_runCommands M1 = some (r, M2)) (hth : M2 12 47 0 = k) (hag : k = 0 → x1 = r.toInt64) (kk : ∀ (H1 : Heap) (locs1 : List Loc) (ls1 : Array Slot), lv_has ls1 10 (lLoc w b oL oD i0) → lI w s H1 locs1 oL oD cL cD x1 y b L xs M2 → W p l e R s m args below meth c H1 locs1 (cells + 1) (slots + 6) Q (F0 m 2998 ls1 [])) : W p l e R s m args below meth c H locs cells slots Q (F0 m 2714 ls []) := by
  refine lv_aload_n hx hb dL_law_2714 rfl (lv_at hl 1 rfl) ?_
  refine lv_aload_n hx hb dL_law_2715 rfl (lv_at hl 3 rfl) ?_
  refine l_help (As := [.ref (w.1 12 16), .ref oL]) (rest := []) hx hb hml hown hI (h_runCommands l w hsf H.size oL cL x M o M1 h1 k x1 hres) (l_cw (n := 2) hI.1.T (tin6 (List.mem_of_getElem? (l := tables_1_6) (i := 43) rfl)) (q1241 hI.1.T) (q1242 hI.1.T) (q0 hI.1.T) (by decide +kernel) ⟨rfl, rfl, (Nat.le_trans (Nat.le_of_ble_eq_true rfl) hR.1), (Nat.le_trans (Nat.le_of_ble_eq_true rfl) hR.2.1)⟩) rfl hl.1 (Nat.le_of_ble_eq_true rfl) dL_law_2716 ⟨Nat.le_trans (Nat.add_le_add_left (Nat.le_of_ble_eq_true rfl) _) hR.2.2.1, Nat.le_trans (Nat.add_le_add_left (Nat.le_of_ble_eq_true rfl) _) hR.2.2.2⟩ (fun H locs hI => ?_)
  refine lv_istore (lv' := [(6, .int k), (0, .ref b), (1, .ref (w.1 12 16)), (2, .ref (w.1 12 47)), (3, .ref oL), (4, .ref oD), (5, .int (Int32.ofNat i0))]) hx hb dL_law_2719 hl (by decide) rfl (fun ls hl => ?_)
  refine lv_aload_n hx hb dL_law_2721 rfl (lv_at hl 3 rfl) ?_
  refine l_callV (As := []) (rest := []) hx hb hml hown hI (c_X12_runCommands l w H.size M1 r M2 h2) (kb_X12_runCommands hI.1.T (q1873 hI.1.T) (Nat.le_trans (Nat.le_of_ble_eq_true rfl) hR.1) (Nat.le_trans (Nat.le_of_ble_eq_true rfl) hR.2.1)) (q1874 hI.1.T) (q1875 hI.1.T) (m_recv hI.1 (mokX (by decide) (by decide)) rfl rfl) rfl hl.1 (Nat.le_of_ble_eq_true rfl) dL_law_2722 ⟨(Nat.le_trans (Nat.add_le_add_left (Nat.le_of_ble_eq_true rfl) _) hR.2.2.1), (Nat.le_trans (Nat.add_le_add_left (Nat.le_of_ble_eq_true rfl) _) hR.2.2.2)⟩ (fun H locs hI => ?_)
  refine lv_istore (lv' := [(7, .int r), (6, .int k), (0, .ref b), (1, .ref (w.1 12 16)), (2, .ref (w.1 12 47)), (3, .ref oL), (4, .ref oD), (5, .int (Int32.ofNat i0))]) hx hb dL_law_2725 hl (by decide) rfl (fun ls hl => ?_)
  refine lv_aload_n hx hb dL_law_2727 rfl (lv_at hl 4 rfl) ?_
  refine l_callV (As := []) (rest := []) hx hb hml hown hI (c_X12_thrown l w H.size M2 (M2 12 47 0) rfl) (kb_X12_thrown hI.1.T (q1496 hI.1.T) (Nat.le_trans (Nat.le_of_ble_eq_true rfl) hR.1) (Nat.le_trans (Nat.le_of_ble_eq_true rfl) hR.2.1)) (q1497 hI.1.T) (q1498 hI.1.T) (m_recv hI.1 (mokX (by decide) (by decide)) rfl rfl) rfl hl.1 (Nat.le_of_ble_eq_true rfl) dL_law_2728 ⟨(Nat.le_trans (Nat.add_le_add_left (Nat.le_of_ble_eq_true rfl) _) hR.2.2.1), (Nat.le_trans (Nat.add_le_add_left (Nat.le_of_ble_eq_true rfl) _) hR.2.2.2)⟩ (fun H locs hI => ?_)
  refine lv_iload hx hb dL_law_2731 (lv_at hl 1 rfl) ?_
  refine lv_icmp_eq (tgt := 2738) hx hb dL_law_2733 (by decide) (fun _ => ?_) (fun c2 => absurd hth c2)
  refine lv_iload hx hb dL_law_2738 (lv_at hl 1 rfl) ?_
  refine lv_if_ne (tgt := 2755) hx hb dL_law_2740 (by decide) (fun _ => ?_) (fun c2 => ?_)
  · refine lv_goto (tgt := 2998) hx hb dL_law_2755 (by decide) ?_
    exact kk H locs ls (lv_sub hl [2, 3, 4, 5, 6, 7] rfl) hI
  refine lv_aload_n hx hb dL_law_2743 rfl (lv_at hl 5 rfl) ?_
  refine lv_iconst (v := 0) hx hb dL_law_2744 (by decide) ?_
  refine l_lald hx hb hI dL_law_2745 ?_
  refine lv_iload hx hb dL_law_2746 (lv_at hl 0 rfl) ?_
  refine lv_i2l (v := r.toInt64) hx hb dL_law_2748 rfl ?_
  refine W.lcmp hx hb dL_law_2749 ?_
  refine lv_if_eq (tgt := 2755) hx hb dL_law_2750 (by decide) (fun _ => ?_) (fun c3 => absurd (by rw [hag c2]; exact lg_cmp0 _) c3)
  refine lv_goto (tgt := 2998) hx hb dL_law_2755 (by decide) ?_
  exact kk H locs ls (lv_sub hl [2, 3, 4, 5, 6, 7] rfl) hI
set_option maxRecDepth 100000 in
theorem l_c53 {p : Program} {l : Launch} {e : Env} {R : Room} {s : State} {m : MethodId} {args : Array Value} {below : List Frame} {meth : Method} {c : Code} {H : Heap} {locs : List Loc} {cells slots : Nat} {Q : State → Prop} {ls : Array Slot} {w : WD} {oL oD b L i0 : Nat} {xs : Nat → Int32} {cL cD : ClassId} {x : Int64} {y : UInt64} (hsf : l.stackTraces = false) (hx : p.tables.exec = Jvm.exec) (hb : c.code = cL_law) (hml : c.maxLocals = 10) (hown : s.vm.findClass "ShareVaultLaw" = some m.cls) (hR : 13 ≤ R.frames ∧ 400 ≤ R.locals ∧ cells + 2 ≤ R.cells ∧ slots + 12 ≤ R.slots) (hi : i0 + 4 < L) (hLL : L ≤ 2560) (hl : lv_has ls 10 (lLoc w b oL oD i0)) {M M2 : Mem} {o : Nat ⊕ Int32} {r k : Int32} {x1 : Int64} (hI : lI w s H locs oL oD cL cD x y b L xs M) (h1 : f_X11_errorPosition M = some o) (hres : hRes [(4, 1)] (fun v => v.toInt64) x o k x1) (h2 : f_X12_errorPosition M = some (r, M2)) (hth : M2 12 47 0 = k) (hag : k = 0 → x1 = r.toInt64) (kk : ∀ (H1 : Heap) (locs1 : List Loc) (ls1 : Array Slot), lv_has ls1 10 (lLoc w b oL oD i0) → lI w s H1 locs1 oL oD cL cD x1 y b L xs M2 → W p l e R s m args below meth c H1 locs1 (cells + 1) (slots + 6) Q (F0 m 2998 ls1 [])) : W p l e R s m args below meth c H locs cells slots Q (F0 m 2758 ls []) := by
  refine lv_aload_n hx hb dL_law_2758 rfl (lv_at hl 1 rfl) ?_
  refine lv_aload_n hx hb dL_law_2759 rfl (lv_at hl 3 rfl) ?_
  refine l_help (As := [.ref (w.1 12 16), .ref oL]) (rest := []) hx hb hml hown hI (h_errorPosition l w hsf H.size oL cL x M o h1 k x1 hres) (l_cw (n := 2) hI.1.T (tin6 (List.mem_of_getElem? (l := tables_1_6) (i := 182) rfl)) (q1380 hI.1.T) (q1381 hI.1.T) (q0 hI.1.T) (by decide +kernel) ⟨rfl, rfl, (Nat.le_trans (Nat.le_of_ble_eq_true rfl) hR.1), (Nat.le_trans (Nat.le_of_ble_eq_true rfl) hR.2.1)⟩) rfl hl.1 (Nat.le_of_ble_eq_true rfl) dL_law_2760 ⟨Nat.le_trans (Nat.add_le_add_left (Nat.le_of_ble_eq_true rfl) _) hR.2.2.1, Nat.le_trans (Nat.add_le_add_left (Nat.le_of_ble_eq_true rfl) _) hR.2.2.2⟩ (fun H locs hI => ?_)
  refine lv_istore (lv' := [(6, .int k), (0, .ref b), (1, .ref (w.1 12 16)), (2, .ref (w.1 12 47)), (3, .ref oL), (4, .ref oD), (5, .int (Int32.ofNat i0))]) hx hb dL_law_2763 hl (by decide) rfl (fun ls hl => ?_)
  refine lv_aload_n hx hb dL_law_2765 rfl (lv_at hl 3 rfl) ?_
  refine l_callV (As := []) (rest := []) hx hb hml hown hI (c_X12_errorPosition l w H.size M r M2 h2) (kb_X12_errorPosition hI.1.T (q1928 hI.1.T) (Nat.le_trans (Nat.le_of_ble_eq_true rfl) hR.1) (Nat.le_trans (Nat.le_of_ble_eq_true rfl) hR.2.1)) (q1929 hI.1.T) (q1930 hI.1.T) (m_recv hI.1 (mokX (by decide) (by decide)) rfl rfl) rfl hl.1 (Nat.le_of_ble_eq_true rfl) dL_law_2766 ⟨(Nat.le_trans (Nat.add_le_add_left (Nat.le_of_ble_eq_true rfl) _) hR.2.2.1), (Nat.le_trans (Nat.add_le_add_left (Nat.le_of_ble_eq_true rfl) _) hR.2.2.2)⟩ (fun H locs hI => ?_)
  refine lv_istore (lv' := [(7, .int r), (6, .int k), (0, .ref b), (1, .ref (w.1 12 16)), (2, .ref (w.1 12 47)), (3, .ref oL), (4, .ref oD), (5, .int (Int32.ofNat i0))]) hx hb dL_law_2769 hl (by decide) rfl (fun ls hl => ?_)
  refine lv_aload_n hx hb dL_law_2771 rfl (lv_at hl 4 rfl) ?_
  refine l_callV (As := []) (rest := []) hx hb hml hown hI (c_X12_thrown l w H.size M2 (M2 12 47 0) rfl) (kb_X12_thrown hI.1.T (q1496 hI.1.T) (Nat.le_trans (Nat.le_of_ble_eq_true rfl) hR.1) (Nat.le_trans (Nat.le_of_ble_eq_true rfl) hR.2.1)) (q1497 hI.1.T) (q1498 hI.1.T) (m_recv hI.1 (mokX (by decide) (by decide)) rfl rfl) rfl hl.1 (Nat.le_of_ble_eq_true rfl) dL_law_2772 ⟨(Nat.le_trans (Nat.add_le_add_left (Nat.le_of_ble_eq_true rfl) _) hR.2.2.1), (Nat.le_trans (Nat.add_le_add_left (Nat.le_of_ble_eq_true rfl) _) hR.2.2.2)⟩ (fun H locs hI => ?_)
  refine lv_iload hx hb dL_law_2775 (lv_at hl 1 rfl) ?_
  refine lv_icmp_eq (tgt := 2782) hx hb dL_law_2777 (by decide) (fun _ => ?_) (fun c2 => absurd hth c2)
  refine lv_iload hx hb dL_law_2782 (lv_at hl 1 rfl) ?_
  refine lv_if_ne (tgt := 2799) hx hb dL_law_2784 (by decide) (fun _ => ?_) (fun c2 => ?_)
  · refine lv_goto (tgt := 2998) hx hb dL_law_2799 (by decide) ?_
    exact kk H locs ls (lv_sub hl [2, 3, 4, 5, 6, 7] rfl) hI
  refine lv_aload_n hx hb dL_law_2787 rfl (lv_at hl 5 rfl) ?_
  refine lv_iconst (v := 0) hx hb dL_law_2788 (by decide) ?_
  refine l_lald hx hb hI dL_law_2789 ?_
  refine lv_iload hx hb dL_law_2790 (lv_at hl 0 rfl) ?_
  refine lv_i2l (v := r.toInt64) hx hb dL_law_2792 rfl ?_
  refine W.lcmp hx hb dL_law_2793 ?_
  refine lv_if_eq (tgt := 2799) hx hb dL_law_2794 (by decide) (fun _ => ?_) (fun c3 => absurd (by rw [hag c2]; exact lg_cmp0 _) c3)
  refine lv_goto (tgt := 2998) hx hb dL_law_2799 (by decide) ?_
  exact kk H locs ls (lv_sub hl [2, 3, 4, 5, 6, 7] rfl) hI
set_option maxRecDepth 100000 in
theorem l_c54 {p : Program} {l : Launch} {e : Env} {R : Room} {s : State} {m : MethodId} {args : Array Value} {below : List Frame} {meth : Method} {c : Code} {H : Heap} {locs : List Loc} {cells slots : Nat} {Q : State → Prop} {ls : Array Slot} {w : WD} {oL oD b L i0 : Nat} {xs : Nat → Int32} {cL cD : ClassId} {x : Int64} {y : UInt64} (hsf : l.stackTraces = false) (hx : p.tables.exec = Jvm.exec) (hb : c.code = cL_law) (hml : c.maxLocals = 10) (hown : s.vm.findClass "ShareVaultLaw" = some m.cls) (hR : 13 ≤ R.frames ∧ 400 ≤ R.locals ∧ cells + 2 ≤ R.cells ∧ slots + 12 ≤ R.slots) (hi : i0 + 4 < L) (hLL : L ≤ 2560) (hl : lv_has ls 10 (lLoc w b oL oD i0)) {M M1 M2 : Mem} {r : Int32} (hI : lI w s H locs oL oD cL cD x y b L xs M) (h1 : f_X11_writeZones M = some (r, M1)) (h2 : f_X12_writeZones M1 = some (r, M2)) (kk : ∀ (H1 : Heap) (locs1 : List Loc), lI w s H1 locs1 oL oD cL cD x y b L xs M2 → W p l e R s m args below meth c H1 locs1 cells slots Q (F0 m 2998 ls [])) : W p l e R s m args below meth c H locs cells slots Q (F0 m 2802 ls []) := by
  refine lv_aload_n hx hb dL_law_2802 rfl (lv_at hl 1 rfl) ?_
  refine l_callV (As := []) (rest := []) hx hb hml hown hI (c_X11_writeZones l w H.size M r M1 h1) (kb_X11_writeZones hI.1.T (q502 hI.1.T) (Nat.le_trans (Nat.le_of_ble_eq_true rfl) hR.1) (Nat.le_trans (Nat.le_of_ble_eq_true rfl) hR.2.1)) (q503 hI.1.T) (q504 hI.1.T) (m_recv hI.1 (mokX (by decide) (by decide)) rfl rfl) rfl hl.1 (Nat.le_of_ble_eq_true rfl) dL_law_2803 ⟨(Nat.le_trans (Nat.le_add_right _ _) hR.2.2.1), (Nat.le_trans (Nat.le_add_right _ _) hR.2.2.2)⟩ (fun H locs hI => ?_)
  refine lv_aload_n hx hb dL_law_2806 rfl (lv_at hl 2 rfl) ?_
  refine l_callV (As := []) (rest := [.int r]) hx hb hml hown hI (c_X12_writeZones l w H.size M1 r M2 h2) (kb_X12_writeZones hI.1.T (q1932 hI.1.T) (Nat.le_trans (Nat.le_of_ble_eq_true rfl) hR.1) (Nat.le_trans (Nat.le_of_ble_eq_true rfl) hR.2.1)) (q1933 hI.1.T) (q1934 hI.1.T) (m_recv hI.1 (mokX (by decide) (by decide)) rfl rfl) rfl hl.1 (Nat.le_of_ble_eq_true rfl) dL_law_2807 ⟨(Nat.le_trans (Nat.le_add_right _ _) hR.2.2.1), (Nat.le_trans (Nat.le_add_right _ _) hR.2.2.2)⟩ (fun H locs hI => ?_)
  refine lv_icmp_eq (tgt := 2998) hx hb dL_law_2810 (by decide) (fun _ => ?_) (fun c2 => absurd rfl c2)
  exact kk H locs hI
set_option maxRecDepth 100000 in
theorem l_c55 {p : Program} {l : Launch} {e : Env} {R : Room} {s : State} {m : MethodId} {args : Array Value} {below : List Frame} {meth : Method} {c : Code} {H : Heap} {locs : List Loc} {cells slots : Nat} {Q : State → Prop} {ls : Array Slot} {w : WD} {oL oD b L i0 : Nat} {xs : Nat → Int32} {cL cD : ClassId} {x : Int64} {y : UInt64} (hsf : l.stackTraces = false) (hx : p.tables.exec = Jvm.exec) (hb : c.code = cL_law) (hml : c.maxLocals = 10) (hown : s.vm.findClass "ShareVaultLaw" = some m.cls) (hR : 13 ≤ R.frames ∧ 400 ≤ R.locals ∧ cells + 2 ≤ R.cells ∧ slots + 12 ≤ R.slots) (hi : i0 + 4 < L) (hLL : L ≤ 2560) (hl : lv_has ls 10 (lLoc w b oL oD i0)) {M M1 M2 : Mem} {r : Int32} (hI : lI w s H locs oL oD cL cD x y b L xs M) (h1 : f_X11_writeLog M = some (r, M1)) (h2 : f_X12_writeLog M1 = some (r, M2)) (kk : ∀ (H1 : Heap) (locs1 : List Loc), lI w s H1 locs1 oL oD cL cD x y b L xs M2 → W p l e R s m args below meth c H1 locs1 cells slots Q (F0 m 2998 ls [])) : W p l e R s m args below meth c H locs cells slots Q (F0 m 2815 ls []) := by
  refine lv_aload_n hx hb dL_law_2815 rfl (lv_at hl 1 rfl) ?_
  refine l_callV (As := []) (rest := []) hx hb hml hown hI (c_X11_writeLog l w H.size M r M1 h1) (kb_X11_writeLog hI.1.T (q528 hI.1.T) (Nat.le_trans (Nat.le_of_ble_eq_true rfl) hR.1) (Nat.le_trans (Nat.le_of_ble_eq_true rfl) hR.2.1)) (q529 hI.1.T) (q530 hI.1.T) (m_recv hI.1 (mokX (by decide) (by decide)) rfl rfl) rfl hl.1 (Nat.le_of_ble_eq_true rfl) dL_law_2816 ⟨(Nat.le_trans (Nat.le_add_right _ _) hR.2.2.1), (Nat.le_trans (Nat.le_add_right _ _) hR.2.2.2)⟩ (fun H locs hI => ?_)
  refine lv_aload_n hx hb dL_law_2819 rfl (lv_at hl 2 rfl) ?_
  refine l_callV (As := []) (rest := [.int r]) hx hb hml hown hI (c_X12_writeLog l w H.size M1 r M2 h2) (kb_X12_writeLog hI.1.T (q1944 hI.1.T) (Nat.le_trans (Nat.le_of_ble_eq_true rfl) hR.1) (Nat.le_trans (Nat.le_of_ble_eq_true rfl) hR.2.1)) (q1945 hI.1.T) (q1946 hI.1.T) (m_recv hI.1 (mokX (by decide) (by decide)) rfl rfl) rfl hl.1 (Nat.le_of_ble_eq_true rfl) dL_law_2820 ⟨(Nat.le_trans (Nat.le_add_right _ _) hR.2.2.1), (Nat.le_trans (Nat.le_add_right _ _) hR.2.2.2)⟩ (fun H locs hI => ?_)
  refine lv_icmp_eq (tgt := 2998) hx hb dL_law_2823 (by decide) (fun _ => ?_) (fun c2 => absurd rfl c2)
  exact kk H locs hI
set_option maxRecDepth 100000 in
theorem l_c56 {p : Program} {l : Launch} {e : Env} {R : Room} {s : State} {m : MethodId} {args : Array Value} {below : List Frame} {meth : Method} {c : Code} {H : Heap} {locs : List Loc} {cells slots : Nat} {Q : State → Prop} {ls : Array Slot} {w : WD} {oL oD b L i0 : Nat} {xs : Nat → Int32} {cL cD : ClassId} {x : Int64} {y : UInt64} (hsf : l.stackTraces = false) (hx : p.tables.exec = Jvm.exec) (hb : c.code = cL_law) (hml : c.maxLocals = 10) (hown : s.vm.findClass "ShareVaultLaw" = some m.cls) (hR : 13 ≤ R.frames ∧ 400 ≤ R.locals ∧ cells + 2 ≤ R.cells ∧ slots + 12 ≤ R.slots) (hi : i0 + 4 < L) (hLL : L ≤ 2560) (hl : lv_has ls 10 (lLoc w b oL oD i0)) {M M2 : Mem} {o : Nat ⊕ Int32} {r k : Int32} {x1 : Int64} (hI : lI w s H locs oL oD cL cD x y b L xs M) (h1 : f_X11_outputChar (xs (i0 + 1)) M = some o) (hres : hRes [(1, 1)] (fun v => v.toInt64) x o k x1) (h2 : f_X12_outputChar (xs (i0 + 1)) M = some (r, M2)) (hth : M2 12 47 0 = k) (hag : k = 0 → x1 = r.toInt64) (kk : ∀ (H1 : Heap) (locs1 : List Loc) (ls1 : Array Slot), lv_has ls1 10 (lLoc w b oL oD i0) → lI w s H1 locs1 oL oD cL cD x1 y b L xs M2 → W p l e R s m args below meth c H1 locs1 (cells + 1) (slots + 6) Q (F0 m 2998 ls1 [])) : W p l e R s m args below meth c H locs cells slots Q (F0 m 2828 ls []) := by
  refine lv_aload_n hx hb dL_law_2828 rfl (lv_at hl 1 rfl) ?_
  refine l_arg (j := 1) hx hb hI hi hLL (by decide) (lv_at hl 0 rfl) (lv_at hl 5 rfl) dL_law_2829 (by decide) dL_law_2830 dL_law_2832 dL_law_2833 dL_law_2834 ?_
  refine lv_aload_n hx hb dL_law_2835 rfl (lv_at hl 3 rfl) ?_
  refine l_help (As := [.ref (w.1 12 16), .int (xs (i0 + 1)), .ref oL]) (rest := []) hx hb hml hown hI (h_outputChar l w hsf H.size oL cL x (xs (i0 + 1)) M o h1 k x1 hres) (l_cw (n := 3) hI.1.T (tin6 (List.mem_of_getElem? (l := tables_1_6) (i := 190) rfl)) (q1388 hI.1.T) (q1389 hI.1.T) (q0 hI.1.T) (by decide +kernel) ⟨rfl, rfl, (Nat.le_trans (Nat.le_of_ble_eq_true rfl) hR.1), (Nat.le_trans (Nat.le_of_ble_eq_true rfl) hR.2.1)⟩) rfl hl.1 (Nat.le_of_ble_eq_true rfl) dL_law_2836 ⟨Nat.le_trans (Nat.add_le_add_left (Nat.le_of_ble_eq_true rfl) _) hR.2.2.1, Nat.le_trans (Nat.add_le_add_left (Nat.le_of_ble_eq_true rfl) _) hR.2.2.2⟩ (fun H locs hI => ?_)
  refine lv_istore (lv' := [(6, .int k), (0, .ref b), (1, .ref (w.1 12 16)), (2, .ref (w.1 12 47)), (3, .ref oL), (4, .ref oD), (5, .int (Int32.ofNat i0))]) hx hb dL_law_2839 hl (by decide) rfl (fun ls hl => ?_)
  refine lv_aload_n hx hb dL_law_2841 rfl (lv_at hl 3 rfl) ?_
  refine l_arg (j := 1) hx hb hI hi hLL (by decide) (lv_at hl 1 rfl) (lv_at hl 6 rfl) dL_law_2842 (by decide) dL_law_2843 dL_law_2845 dL_law_2846 dL_law_2847 ?_
  refine l_callV (As := [.int (xs (i0 + 1))]) (rest := []) hx hb hml hown hI (c_X12_outputChar l w H.size (xs (i0 + 1)) M r M2 h2) (kb_X12_outputChar hI.1.T (q1948 hI.1.T) (Nat.le_trans (Nat.le_of_ble_eq_true rfl) hR.1) (Nat.le_trans (Nat.le_of_ble_eq_true rfl) hR.2.1)) (q1949 hI.1.T) (q1950 hI.1.T) (m_recv hI.1 (mokX (by decide) (by decide)) rfl rfl) rfl hl.1 (Nat.le_of_ble_eq_true rfl) dL_law_2848 ⟨(Nat.le_trans (Nat.add_le_add_left (Nat.le_of_ble_eq_true rfl) _) hR.2.2.1), (Nat.le_trans (Nat.add_le_add_left (Nat.le_of_ble_eq_true rfl) _) hR.2.2.2)⟩ (fun H locs hI => ?_)
  refine lv_istore (lv' := [(7, .int r), (6, .int k), (0, .ref b), (1, .ref (w.1 12 16)), (2, .ref (w.1 12 47)), (3, .ref oL), (4, .ref oD), (5, .int (Int32.ofNat i0))]) hx hb dL_law_2851 hl (by decide) rfl (fun ls hl => ?_)
  refine lv_aload_n hx hb dL_law_2853 rfl (lv_at hl 4 rfl) ?_
  refine l_callV (As := []) (rest := []) hx hb hml hown hI (c_X12_thrown l w H.size M2 (M2 12 47 0) rfl) (kb_X12_thrown hI.1.T (q1496 hI.1.T) (Nat.le_trans (Nat.le_of_ble_eq_true rfl) hR.1) (Nat.le_trans (Nat.le_of_ble_eq_true rfl) hR.2.1)) (q1497 hI.1.T) (q1498 hI.1.T) (m_recv hI.1 (mokX (by decide) (by decide)) rfl rfl) rfl hl.1 (Nat.le_of_ble_eq_true rfl) dL_law_2854 ⟨(Nat.le_trans (Nat.add_le_add_left (Nat.le_of_ble_eq_true rfl) _) hR.2.2.1), (Nat.le_trans (Nat.add_le_add_left (Nat.le_of_ble_eq_true rfl) _) hR.2.2.2)⟩ (fun H locs hI => ?_)
  refine lv_iload hx hb dL_law_2857 (lv_at hl 1 rfl) ?_
  refine lv_icmp_eq (tgt := 2864) hx hb dL_law_2859 (by decide) (fun _ => ?_) (fun c2 => absurd hth c2)
  refine lv_iload hx hb dL_law_2864 (lv_at hl 1 rfl) ?_
  refine lv_if_ne (tgt := 2881) hx hb dL_law_2866 (by decide) (fun _ => ?_) (fun c2 => ?_)
  · refine lv_goto (tgt := 2998) hx hb dL_law_2881 (by decide) ?_
    exact kk H locs ls (lv_sub hl [2, 3, 4, 5, 6, 7] rfl) hI
  refine lv_aload_n hx hb dL_law_2869 rfl (lv_at hl 5 rfl) ?_
  refine lv_iconst (v := 0) hx hb dL_law_2870 (by decide) ?_
  refine l_lald hx hb hI dL_law_2871 ?_
  refine lv_iload hx hb dL_law_2872 (lv_at hl 0 rfl) ?_
  refine lv_i2l (v := r.toInt64) hx hb dL_law_2874 rfl ?_
  refine W.lcmp hx hb dL_law_2875 ?_
  refine lv_if_eq (tgt := 2881) hx hb dL_law_2876 (by decide) (fun _ => ?_) (fun c3 => absurd (by rw [hag c2]; exact lg_cmp0 _) c3)
  refine lv_goto (tgt := 2998) hx hb dL_law_2881 (by decide) ?_
  exact kk H locs ls (lv_sub hl [2, 3, 4, 5, 6, 7] rfl) hI
set_option maxRecDepth 100000 in
theorem l_c57 {p : Program} {l : Launch} {e : Env} {R : Room} {s : State} {m : MethodId} {args : Array Value} {below : List Frame} {meth : Method} {c : Code} {H : Heap} {locs : List Loc} {cells slots : Nat} {Q : State → Prop} {ls : Array Slot} {w : WD} {oL oD b L i0 : Nat} {xs : Nat → Int32} {cL cD : ClassId} {x : Int64} {y : UInt64} (hsf : l.stackTraces = false) (hx : p.tables.exec = Jvm.exec) (hb : c.code = cL_law) (hml : c.maxLocals = 10) (hown : s.vm.findClass "ShareVaultLaw" = some m.cls) (hR : 13 ≤ R.frames ∧ 400 ≤ R.locals ∧ cells + 2 ≤ R.cells ∧ slots + 12 ≤ R.slots) (hi : i0 + 4 < L) (hLL : L ≤ 2560) (hl : lv_has ls 10 (lLoc w b oL oD i0)) {M M2 : Mem} {r : Int32} (hI : lI w s H locs oL oD cL cD x y b L xs M) (h1 : f_X11_undoCount M = some r) (h2 : f_X12_undoCount M = some (r, M2)) (kk : ∀ (H1 : Heap) (locs1 : List Loc), lI w s H1 locs1 oL oD cL cD x y b L xs M2 → W p l e R s m args below meth c H1 locs1 cells slots Q (F0 m 2998 ls [])) : W p l e R s m args below meth c H locs cells slots Q (F0 m 2884 ls []) := by
  refine lv_aload_n hx hb dL_law_2884 rfl (lv_at hl 1 rfl) ?_
  refine l_callV (As := []) (rest := []) hx hb hml hown hI (c_X11_undoCount l w H.size M r h1) (kb_X11_undoCount hI.1.T (q532 hI.1.T) (Nat.le_trans (Nat.le_of_ble_eq_true rfl) hR.1) (Nat.le_trans (Nat.le_of_ble_eq_true rfl) hR.2.1)) (q533 hI.1.T) (q534 hI.1.T) (m_recv hI.1 (mokX (by decide) (by decide)) rfl rfl) rfl hl.1 (Nat.le_of_ble_eq_true rfl) dL_law_2885 ⟨(Nat.le_trans (Nat.le_add_right _ _) hR.2.2.1), (Nat.le_trans (Nat.le_add_right _ _) hR.2.2.2)⟩ (fun H locs hI => ?_)
  refine lv_aload_n hx hb dL_law_2888 rfl (lv_at hl 2 rfl) ?_
  refine l_callV (As := []) (rest := [.int r]) hx hb hml hown hI (c_X12_undoCount l w H.size M r M2 h2) (kb_X12_undoCount hI.1.T (q1952 hI.1.T) (Nat.le_trans (Nat.le_of_ble_eq_true rfl) hR.1) (Nat.le_trans (Nat.le_of_ble_eq_true rfl) hR.2.1)) (q1953 hI.1.T) (q1954 hI.1.T) (m_recv hI.1 (mokX (by decide) (by decide)) rfl rfl) rfl hl.1 (Nat.le_of_ble_eq_true rfl) dL_law_2889 ⟨(Nat.le_trans (Nat.le_add_right _ _) hR.2.2.1), (Nat.le_trans (Nat.le_add_right _ _) hR.2.2.2)⟩ (fun H locs hI => ?_)
  refine lv_icmp_eq (tgt := 2998) hx hb dL_law_2892 (by decide) (fun _ => ?_) (fun c2 => absurd rfl c2)
  exact kk H locs hI
set_option maxRecDepth 100000 in
theorem l_c58 {p : Program} {l : Launch} {e : Env} {R : Room} {s : State} {m : MethodId} {args : Array Value} {below : List Frame} {meth : Method} {c : Code} {H : Heap} {locs : List Loc} {cells slots : Nat} {Q : State → Prop} {ls : Array Slot} {w : WD} {oL oD b L i0 : Nat} {xs : Nat → Int32} {cL cD : ClassId} {x : Int64} {y : UInt64} (hsf : l.stackTraces = false) (hx : p.tables.exec = Jvm.exec) (hb : c.code = cL_law) (hml : c.maxLocals = 10) (hown : s.vm.findClass "ShareVaultLaw" = some m.cls) (hR : 13 ≤ R.frames ∧ 400 ≤ R.locals ∧ cells + 2 ≤ R.cells ∧ slots + 12 ≤ R.slots) (hi : i0 + 4 < L) (hLL : L ≤ 2560) (hl : lv_has ls 10 (lLoc w b oL oD i0)) {M M1 M2 : Mem} {o : Nat ⊕ Int32} {r k : Int32} {x1 : Int64} (hI : lI w s H locs oL oD cL cD x y b L xs M) (h1 : f_X11_undo M = some (o, M1)) (hres : hRes [(5, 1)] (fun v => v.toInt64) x o k x1) (h2 : f_X12_undo M1 = some (r, M2)) (hth : M2 12 47 0 = k) (hag : k = 0 → x1 = r.toInt64) (kk : ∀ (H1 : Heap) (locs1 : List Loc) (ls1 : Array Slot), lv_has ls1 10 (lLoc w b oL oD i0) → lI w s H1 locs1 oL oD cL cD x1 y b L xs M2 → W p l e R s m args below meth c H1 locs1 (cells + 1) (slots + 6) Q (F0 m 2998 ls1 [])) : W p l e R s m args below meth c H locs cells slots Q (F0 m 2897 ls []) := by
  refine lv_aload_n hx hb dL_law_2897 rfl (lv_at hl 1 rfl) ?_
  refine lv_aload_n hx hb dL_law_2898 rfl (lv_at hl 3 rfl) ?_
  refine l_help (As := [.ref (w.1 12 16), .ref oL]) (rest := []) hx hb hml hown hI (h_undo l w hsf H.size oL cL x M o M1 h1 k x1 hres) (l_cw (n := 2) hI.1.T (tin6 (List.mem_of_getElem? (l := tables_1_6) (i := 198) rfl)) (q1396 hI.1.T) (q1397 hI.1.T) (q0 hI.1.T) (by decide +kernel) ⟨rfl, rfl, (Nat.le_trans (Nat.le_of_ble_eq_true rfl) hR.1), (Nat.le_trans (Nat.le_of_ble_eq_true rfl) hR.2.1)⟩) rfl hl.1 (Nat.le_of_ble_eq_true rfl) dL_law_2899 ⟨Nat.le_trans (Nat.add_le_add_left (Nat.le_of_ble_eq_true rfl) _) hR.2.2.1, Nat.le_trans (Nat.add_le_add_left (Nat.le_of_ble_eq_true rfl) _) hR.2.2.2⟩ (fun H locs hI => ?_)
  refine lv_istore (lv' := [(6, .int k), (0, .ref b), (1, .ref (w.1 12 16)), (2, .ref (w.1 12 47)), (3, .ref oL), (4, .ref oD), (5, .int (Int32.ofNat i0))]) hx hb dL_law_2902 hl (by decide) rfl (fun ls hl => ?_)
  refine lv_aload_n hx hb dL_law_2904 rfl (lv_at hl 3 rfl) ?_
  refine l_callV (As := []) (rest := []) hx hb hml hown hI (c_X12_undo l w H.size M1 r M2 h2) (kb_X12_undo hI.1.T (q1956 hI.1.T) (Nat.le_trans (Nat.le_of_ble_eq_true rfl) hR.1) (Nat.le_trans (Nat.le_of_ble_eq_true rfl) hR.2.1)) (q1957 hI.1.T) (q1958 hI.1.T) (m_recv hI.1 (mokX (by decide) (by decide)) rfl rfl) rfl hl.1 (Nat.le_of_ble_eq_true rfl) dL_law_2905 ⟨(Nat.le_trans (Nat.add_le_add_left (Nat.le_of_ble_eq_true rfl) _) hR.2.2.1), (Nat.le_trans (Nat.add_le_add_left (Nat.le_of_ble_eq_true rfl) _) hR.2.2.2)⟩ (fun H locs hI => ?_)
  refine lv_istore (lv' := [(7, .int r), (6, .int k), (0, .ref b), (1, .ref (w.1 12 16)), (2, .ref (w.1 12 47)), (3, .ref oL), (4, .ref oD), (5, .int (Int32.ofNat i0))]) hx hb dL_law_2908 hl (by decide) rfl (fun ls hl => ?_)
  refine lv_aload_n hx hb dL_law_2910 rfl (lv_at hl 4 rfl) ?_
  refine l_callV (As := []) (rest := []) hx hb hml hown hI (c_X12_thrown l w H.size M2 (M2 12 47 0) rfl) (kb_X12_thrown hI.1.T (q1496 hI.1.T) (Nat.le_trans (Nat.le_of_ble_eq_true rfl) hR.1) (Nat.le_trans (Nat.le_of_ble_eq_true rfl) hR.2.1)) (q1497 hI.1.T) (q1498 hI.1.T) (m_recv hI.1 (mokX (by decide) (by decide)) rfl rfl) rfl hl.1 (Nat.le_of_ble_eq_true rfl) dL_law_2911 ⟨(Nat.le_trans (Nat.add_le_add_left (Nat.le_of_ble_eq_true rfl) _) hR.2.2.1), (Nat.le_trans (Nat.add_le_add_left (Nat.le_of_ble_eq_true rfl) _) hR.2.2.2)⟩ (fun H locs hI => ?_)
  refine lv_iload hx hb dL_law_2914 (lv_at hl 1 rfl) ?_
  refine lv_icmp_eq (tgt := 2921) hx hb dL_law_2916 (by decide) (fun _ => ?_) (fun c2 => absurd hth c2)
  refine lv_iload hx hb dL_law_2921 (lv_at hl 1 rfl) ?_
  refine lv_if_ne (tgt := 2938) hx hb dL_law_2923 (by decide) (fun _ => ?_) (fun c2 => ?_)
  · refine lv_goto (tgt := 2998) hx hb dL_law_2938 (by decide) ?_
    exact kk H locs ls (lv_sub hl [2, 3, 4, 5, 6, 7] rfl) hI
  refine lv_aload_n hx hb dL_law_2926 rfl (lv_at hl 5 rfl) ?_
  refine lv_iconst (v := 0) hx hb dL_law_2927 (by decide) ?_
  refine l_lald hx hb hI dL_law_2928 ?_
  refine lv_iload hx hb dL_law_2929 (lv_at hl 0 rfl) ?_
  refine lv_i2l (v := r.toInt64) hx hb dL_law_2931 rfl ?_
  refine W.lcmp hx hb dL_law_2932 ?_
  refine lv_if_eq (tgt := 2938) hx hb dL_law_2933 (by decide) (fun _ => ?_) (fun c3 => absurd (by rw [hag c2]; exact lg_cmp0 _) c3)
  refine lv_goto (tgt := 2998) hx hb dL_law_2938 (by decide) ?_
  exact kk H locs ls (lv_sub hl [2, 3, 4, 5, 6, 7] rfl) hI
set_option maxRecDepth 100000 in
theorem l_c59 {p : Program} {l : Launch} {e : Env} {R : Room} {s : State} {m : MethodId} {args : Array Value} {below : List Frame} {meth : Method} {c : Code} {H : Heap} {locs : List Loc} {cells slots : Nat} {Q : State → Prop} {ls : Array Slot} {w : WD} {oL oD b L i0 : Nat} {xs : Nat → Int32} {cL cD : ClassId} {x : Int64} {y : UInt64} (hsf : l.stackTraces = false) (hx : p.tables.exec = Jvm.exec) (hb : c.code = cL_law) (hml : c.maxLocals = 10) (hown : s.vm.findClass "ShareVaultLaw" = some m.cls) (hR : 13 ≤ R.frames ∧ 400 ≤ R.locals ∧ cells + 2 ≤ R.cells ∧ slots + 12 ≤ R.slots) (hi : i0 + 4 < L) (hLL : L ≤ 2560) (hl : lv_has ls 10 (lLoc w b oL oD i0)) {M M1 M2 : Mem} {r : Int32} (hI : lI w s H locs oL oD cL cD x y b L xs M) (h1 : f_X11_save M = some (r, M1)) (h2 : f_X12_save M1 = some (r, M2)) (kk : ∀ (H1 : Heap) (locs1 : List Loc), lI w s H1 locs1 oL oD cL cD x y b L xs M2 → W p l e R s m args below meth c H1 locs1 cells slots Q (F0 m 2998 ls [])) : W p l e R s m args below meth c H locs cells slots Q (F0 m 2941 ls []) := by
  refine lv_aload_n hx hb dL_law_2941 rfl (lv_at hl 1 rfl) ?_
  refine l_callV (As := []) (rest := []) hx hb hml hown hI (c_X11_save l w H.size M r M1 h1) (kb_X11_save hI.1.T (q536 hI.1.T) (Nat.le_trans (Nat.le_of_ble_eq_true rfl) hR.1) (Nat.le_trans (Nat.le_of_ble_eq_true rfl) hR.2.1)) (q537 hI.1.T) (q538 hI.1.T) (m_recv hI.1 (mokX (by decide) (by decide)) rfl rfl) rfl hl.1 (Nat.le_of_ble_eq_true rfl) dL_law_2942 ⟨(Nat.le_trans (Nat.le_add_right _ _) hR.2.2.1), (Nat.le_trans (Nat.le_add_right _ _) hR.2.2.2)⟩ (fun H locs hI => ?_)
  refine lv_aload_n hx hb dL_law_2945 rfl (lv_at hl 2 rfl) ?_
  refine l_callV (As := []) (rest := [.int r]) hx hb hml hown hI (c_X12_save l w H.size M1 r M2 h2) (kb_X12_save hI.1.T (q1960 hI.1.T) (Nat.le_trans (Nat.le_of_ble_eq_true rfl) hR.1) (Nat.le_trans (Nat.le_of_ble_eq_true rfl) hR.2.1)) (q1961 hI.1.T) (q1962 hI.1.T) (m_recv hI.1 (mokX (by decide) (by decide)) rfl rfl) rfl hl.1 (Nat.le_of_ble_eq_true rfl) dL_law_2946 ⟨(Nat.le_trans (Nat.le_add_right _ _) hR.2.2.1), (Nat.le_trans (Nat.le_add_right _ _) hR.2.2.2)⟩ (fun H locs hI => ?_)
  refine lv_icmp_eq (tgt := 2998) hx hb dL_law_2949 (by decide) (fun _ => ?_) (fun c2 => absurd rfl c2)
  exact kk H locs hI
set_option maxRecDepth 100000 in
theorem l_c60 {p : Program} {l : Launch} {e : Env} {R : Room} {s : State} {m : MethodId} {args : Array Value} {below : List Frame} {meth : Method} {c : Code} {H : Heap} {locs : List Loc} {cells slots : Nat} {Q : State → Prop} {ls : Array Slot} {w : WD} {oL oD b L i0 : Nat} {xs : Nat → Int32} {cL cD : ClassId} {x : Int64} {y : UInt64} (hsf : l.stackTraces = false) (hx : p.tables.exec = Jvm.exec) (hb : c.code = cL_law) (hml : c.maxLocals = 10) (hown : s.vm.findClass "ShareVaultLaw" = some m.cls) (hR : 13 ≤ R.frames ∧ 400 ≤ R.locals ∧ cells + 2 ≤ R.cells ∧ slots + 12 ≤ R.slots) (hi : i0 + 4 < L) (hLL : L ≤ 2560) (hl : lv_has ls 10 (lLoc w b oL oD i0)) {M M1 M2 : Mem} {o : Nat ⊕ Int32} {r k : Int32} {x1 : Int64} (hI : lI w s H locs oL oD cL cD x y b L xs M) (h1 : f_X11_restore M = some (o, M1)) (hres : hRes [(5, 1)] (fun v => v.toInt64) x o k x1) (h2 : f_X12_restore M1 = some (r, M2)) (hth : M2 12 47 0 = k) (hag : k = 0 → x1 = r.toInt64) (kk : ∀ (H1 : Heap) (locs1 : List Loc) (ls1 : Array Slot), lv_has ls1 10 (lLoc w b oL oD i0) → lI w s H1 locs1 oL oD cL cD x1 y b L xs M2 → W p l e R s m args below meth c H1 locs1 (cells + 1) (slots + 6) Q (F0 m 2998 ls1 [])) : W p l e R s m args below meth c H locs cells slots Q (F0 m 2954 ls []) := by
  refine lv_aload_n hx hb dL_law_2954 rfl (lv_at hl 1 rfl) ?_
  refine lv_aload_n hx hb dL_law_2955 rfl (lv_at hl 3 rfl) ?_
  refine l_help (As := [.ref (w.1 12 16), .ref oL]) (rest := []) hx hb hml hown hI (h_restore l w hsf H.size oL cL x M o M1 h1 k x1 hres) (l_cw (n := 2) hI.1.T (tin6 (List.mem_of_getElem? (l := tables_1_6) (i := 210) rfl)) (q1408 hI.1.T) (q1409 hI.1.T) (q0 hI.1.T) (by decide +kernel) ⟨rfl, rfl, (Nat.le_trans (Nat.le_of_ble_eq_true rfl) hR.1), (Nat.le_trans (Nat.le_of_ble_eq_true rfl) hR.2.1)⟩) rfl hl.1 (Nat.le_of_ble_eq_true rfl) dL_law_2956 ⟨Nat.le_trans (Nat.add_le_add_left (Nat.le_of_ble_eq_true rfl) _) hR.2.2.1, Nat.le_trans (Nat.add_le_add_left (Nat.le_of_ble_eq_true rfl) _) hR.2.2.2⟩ (fun H locs hI => ?_)
  refine lv_istore (lv' := [(6, .int k), (0, .ref b), (1, .ref (w.1 12 16)), (2, .ref (w.1 12 47)), (3, .ref oL), (4, .ref oD), (5, .int (Int32.ofNat i0))]) hx hb dL_law_2959 hl (by decide) rfl (fun ls hl => ?_)
  refine lv_aload_n hx hb dL_law_2961 rfl (lv_at hl 3 rfl) ?_
  refine l_callV (As := []) (rest := []) hx hb hml hown hI (c_X12_restore l w H.size M1 r M2 h2) (kb_X12_restore hI.1.T (q1964 hI.1.T) (Nat.le_trans (Nat.le_of_ble_eq_true rfl) hR.1) (Nat.le_trans (Nat.le_of_ble_eq_true rfl) hR.2.1)) (q1965 hI.1.T) (q1966 hI.1.T) (m_recv hI.1 (mokX (by decide) (by decide)) rfl rfl) rfl hl.1 (Nat.le_of_ble_eq_true rfl) dL_law_2962 ⟨(Nat.le_trans (Nat.add_le_add_left (Nat.le_of_ble_eq_true rfl) _) hR.2.2.1), (Nat.le_trans (Nat.add_le_add_left (Nat.le_of_ble_eq_true rfl) _) hR.2.2.2)⟩ (fun H locs hI => ?_)
  refine lv_istore (lv' := [(7, .int r), (6, .int k), (0, .ref b), (1, .ref (w.1 12 16)), (2, .ref (w.1 12 47)), (3, .ref oL), (4, .ref oD), (5, .int (Int32.ofNat i0))]) hx hb dL_law_2965 hl (by decide) rfl (fun ls hl => ?_)
  refine lv_aload_n hx hb dL_law_2967 rfl (lv_at hl 4 rfl) ?_
  refine l_callV (As := []) (rest := []) hx hb hml hown hI (c_X12_thrown l w H.size M2 (M2 12 47 0) rfl) (kb_X12_thrown hI.1.T (q1496 hI.1.T) (Nat.le_trans (Nat.le_of_ble_eq_true rfl) hR.1) (Nat.le_trans (Nat.le_of_ble_eq_true rfl) hR.2.1)) (q1497 hI.1.T) (q1498 hI.1.T) (m_recv hI.1 (mokX (by decide) (by decide)) rfl rfl) rfl hl.1 (Nat.le_of_ble_eq_true rfl) dL_law_2968 ⟨(Nat.le_trans (Nat.add_le_add_left (Nat.le_of_ble_eq_true rfl) _) hR.2.2.1), (Nat.le_trans (Nat.add_le_add_left (Nat.le_of_ble_eq_true rfl) _) hR.2.2.2)⟩ (fun H locs hI => ?_)
  refine lv_iload hx hb dL_law_2971 (lv_at hl 1 rfl) ?_
  refine lv_icmp_eq (tgt := 2978) hx hb dL_law_2973 (by decide) (fun _ => ?_) (fun c2 => absurd hth c2)
  refine lv_iload hx hb dL_law_2978 (lv_at hl 1 rfl) ?_
  refine lv_if_ne (tgt := 2995) hx hb dL_law_2980 (by decide) (fun _ => ?_) (fun c2 => ?_)
  · refine lv_goto (tgt := 2998) hx hb dL_law_2995 (by decide) ?_
    exact kk H locs ls (lv_sub hl [2, 3, 4, 5, 6, 7] rfl) hI
  refine lv_aload_n hx hb dL_law_2983 rfl (lv_at hl 5 rfl) ?_
  refine lv_iconst (v := 0) hx hb dL_law_2984 (by decide) ?_
  refine l_lald hx hb hI dL_law_2985 ?_
  refine lv_iload hx hb dL_law_2986 (lv_at hl 0 rfl) ?_
  refine lv_i2l (v := r.toInt64) hx hb dL_law_2988 rfl ?_
  refine W.lcmp hx hb dL_law_2989 ?_
  refine lv_if_eq (tgt := 2995) hx hb dL_law_2990 (by decide) (fun _ => ?_) (fun c3 => absurd (by rw [hag c2]; exact lg_cmp0 _) c3)
  refine lv_goto (tgt := 2998) hx hb dL_law_2995 (by decide) ?_
  exact kk H locs ls (lv_sub hl [2, 3, 4, 5, 6, 7] rfl) hI
