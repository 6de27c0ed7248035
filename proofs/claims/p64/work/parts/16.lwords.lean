set_option maxRecDepth 100000 in
theorem q331 {s : State} {a : Array Value} (h : mT s) : (Jvm.Cond.methodLink "ShareVaultLaw" (235 : Nat) ({ cls := "ShareVault", name := "hour", desc := "()I" } : Jvm.MethodName)).before a s = true := h _ (tin2 (List.mem_of_getElem? (l := tables_1_2) (i := 91) rfl)) rfl a
set_option maxRecDepth 100000 in
theorem q332 {s : State} {a : Array Value} (h : mT s) : (Jvm.Cond.instanceMethod ({ cls := "ShareVault", name := "hour", desc := "()I" } : Jvm.MethodName)).before a s = true := h _ (tin2 (List.mem_of_getElem? (l := tables_1_2) (i := 92) rfl)) rfl a
set_option maxRecDepth 100000 in
theorem q333 {s : State} {a : Array Value} (h : mT s) : (Jvm.Cond.selects "ShareVault" ({ cls := "ShareVault", name := "hour", desc := "()I" } : Jvm.MethodName) ({ cls := "ShareVault", name := "hour", desc := "()I" } : Jvm.MethodName)).before a s = true := h _ (tin2 (List.mem_of_getElem? (l := tables_1_2) (i := 93) rfl)) rfl a
set_option maxRecDepth 100000 in
theorem q335 {s : State} {a : Array Value} (h : mT s) : (Jvm.Cond.methodLink "ShareVaultLaw" (207 : Nat) ({ cls := "ShareVault", name := "holderCount", desc := "()I" } : Jvm.MethodName)).before a s = true := h _ (tin2 (List.mem_of_getElem? (l := tables_1_2) (i := 95) rfl)) rfl a
set_option maxRecDepth 100000 in
theorem q336 {s : State} {a : Array Value} (h : mT s) : (Jvm.Cond.instanceMethod ({ cls := "ShareVault", name := "holderCount", desc := "()I" } : Jvm.MethodName)).before a s = true := h _ (tin2 (List.mem_of_getElem? (l := tables_1_2) (i := 96) rfl)) rfl a
set_option maxRecDepth 100000 in
theorem q337 {s : State} {a : Array Value} (h : mT s) : (Jvm.Cond.selects "ShareVault" ({ cls := "ShareVault", name := "holderCount", desc := "()I" } : Jvm.MethodName) ({ cls := "ShareVault", name := "holderCount", desc := "()I" } : Jvm.MethodName)).before a s = true := h _ (tin2 (List.mem_of_getElem? (l := tables_1_2) (i := 97) rfl)) rfl a
set_option maxRecDepth 100000 in
theorem q339 {s : State} {a : Array Value} (h : mT s) : (Jvm.Cond.methodLink "ShareVaultLaw" (210 : Nat) ({ cls := "ShareVault", name := "presentedCount", desc := "()I" } : Jvm.MethodName)).before a s = true := h _ (tin2 (List.mem_of_getElem? (l := tables_1_2) (i := 99) rfl)) rfl a
set_option maxRecDepth 100000 in
theorem q340 {s : State} {a : Array Value} (h : mT s) : (Jvm.Cond.instanceMethod ({ cls := "ShareVault", name := "presentedCount", desc := "()I" } : Jvm.MethodName)).before a s = true := h _ (tin2 (List.mem_of_getElem? (l := tables_1_2) (i := 100) rfl)) rfl a
set_option maxRecDepth 100000 in
theorem q341 {s : State} {a : Array Value} (h : mT s) : (Jvm.Cond.selects "ShareVault" ({ cls := "ShareVault", name := "presentedCount", desc := "()I" } : Jvm.MethodName) ({ cls := "ShareVault", name := "presentedCount", desc := "()I" } : Jvm.MethodName)).before a s = true := h _ (tin2 (List.mem_of_getElem? (l := tables_1_2) (i := 101) rfl)) rfl a
set_option maxRecDepth 100000 in
theorem q343 {s : State} {a : Array Value} (h : mT s) : (Jvm.Cond.methodLink "ShareVaultLaw" (219 : Nat) ({ cls := "ShareVault", name := "isOpen", desc := "()Z" } : Jvm.MethodName)).before a s = true := h _ (tin2 (List.mem_of_getElem? (l := tables_1_2) (i := 103) rfl)) rfl a
set_option maxRecDepth 100000 in
theorem q344 {s : State} {a : Array Value} (h : mT s) : (Jvm.Cond.instanceMethod ({ cls := "ShareVault", name := "isOpen", desc := "()Z" } : Jvm.MethodName)).before a s = true := h _ (tin2 (List.mem_of_getElem? (l := tables_1_2) (i := 104) rfl)) rfl a
set_option maxRecDepth 100000 in
theorem q345 {s : State} {a : Array Value} (h : mT s) : (Jvm.Cond.selects "ShareVault" ({ cls := "ShareVault", name := "isOpen", desc := "()Z" } : Jvm.MethodName) ({ cls := "ShareVault", name := "isOpen", desc := "()Z" } : Jvm.MethodName)).before a s = true := h _ (tin2 (List.mem_of_getElem? (l := tables_1_2) (i := 105) rfl)) rfl a
set_option maxRecDepth 100000 in
theorem q347 {s : State} {a : Array Value} (h : mT s) : (Jvm.Cond.methodLink "ShareVaultLaw" (213 : Nat) ({ cls := "ShareVault", name := "lockedHours", desc := "()I" } : Jvm.MethodName)).before a s = true := h _ (tin2 (List.mem_of_getElem? (l := tables_1_2) (i := 107) rfl)) rfl a
set_option maxRecDepth 100000 in
theorem q348 {s : State} {a : Array Value} (h : mT s) : (Jvm.Cond.instanceMethod ({ cls := "ShareVault", name := "lockedHours", desc := "()I" } : Jvm.MethodName)).before a s = true := h _ (tin2 (List.mem_of_getElem? (l := tables_1_2) (i := 108) rfl)) rfl a
set_option maxRecDepth 100000 in
theorem q349 {s : State} {a : Array Value} (h : mT s) : (Jvm.Cond.selects "ShareVault" ({ cls := "ShareVault", name := "lockedHours", desc := "()I" } : Jvm.MethodName) ({ cls := "ShareVault", name := "lockedHours", desc := "()I" } : Jvm.MethodName)).before a s = true := h _ (tin2 (List.mem_of_getElem? (l := tables_1_2) (i := 109) rfl)) rfl a
set_option maxRecDepth 100000 in
theorem q351 {s : State} {a : Array Value} (h : mT s) : (Jvm.Cond.methodLink "ShareVaultLaw" (216 : Nat) ({ cls := "ShareVault", name := "failedAttempts", desc := "()I" } : Jvm.MethodName)).before a s = true := h _ (tin2 (List.mem_of_getElem? (l := tables_1_2) (i := 111) rfl)) rfl a
set_option maxRecDepth 100000 in
theorem q352 {s : State} {a : Array Value} (h : mT s) : (Jvm.Cond.instanceMethod ({ cls := "ShareVault", name := "failedAttempts", desc := "()I" } : Jvm.MethodName)).before a s = true := h _ (tin2 (List.mem_of_getElem? (l := tables_1_2) (i := 112) rfl)) rfl a
set_option maxRecDepth 100000 in
theorem q353 {s : State} {a : Array Value} (h : mT s) : (Jvm.Cond.selects "ShareVault" ({ cls := "ShareVault", name := "failedAttempts", desc := "()I" } : Jvm.MethodName) ({ cls := "ShareVault", name := "failedAttempts", desc := "()I" } : Jvm.MethodName)).before a s = true := h _ (tin2 (List.mem_of_getElem? (l := tables_1_2) (i := 113) rfl)) rfl a
set_option maxRecDepth 100000 in
theorem q355 {s : State} {a : Array Value} (h : mT s) : (Jvm.Cond.methodLink "ShareVaultLaw" (232 : Nat) ({ cls := "ShareVault", name := "alarmCount", desc := "()I" } : Jvm.MethodName)).before a s = true := h _ (tin2 (List.mem_of_getElem? (l := tables_1_2) (i := 115) rfl)) rfl a
set_option maxRecDepth 100000 in
theorem q356 {s : State} {a : Array Value} (h : mT s) : (Jvm.Cond.instanceMethod ({ cls := "ShareVault", name := "alarmCount", desc := "()I" } : Jvm.MethodName)).before a s = true := h _ (tin2 (List.mem_of_getElem? (l := tables_1_2) (i := 116) rfl)) rfl a
set_option maxRecDepth 100000 in
theorem q357 {s : State} {a : Array Value} (h : mT s) : (Jvm.Cond.selects "ShareVault" ({ cls := "ShareVault", name := "alarmCount", desc := "()I" } : Jvm.MethodName) ({ cls := "ShareVault", name := "alarmCount", desc := "()I" } : Jvm.MethodName)).before a s = true := h _ (tin2 (List.mem_of_getElem? (l := tables_1_2) (i := 117) rfl)) rfl a
set_option maxRecDepth 100000 in
theorem q359 {s : State} {a : Array Value} (h : mT s) : (Jvm.Cond.methodLink "ShareVaultLaw" (238 : Nat) ({ cls := "ShareVault", name := "openingCount", desc := "()I" } : Jvm.MethodName)).before a s = true := h _ (tin2 (List.mem_of_getElem? (l := tables_1_2) (i := 119) rfl)) rfl a
set_option maxRecDepth 100000 in
theorem q360 {s : State} {a : Array Value} (h : mT s) : (Jvm.Cond.instanceMethod ({ cls := "ShareVault", name := "openingCount", desc := "()I" } : Jvm.MethodName)).before a s = true := h _ (tin2 (List.mem_of_getElem? (l := tables_1_2) (i := 120) rfl)) rfl a
set_option maxRecDepth 100000 in
theorem q361 {s : State} {a : Array Value} (h : mT s) : (Jvm.Cond.selects "ShareVault" ({ cls := "ShareVault", name := "openingCount", desc := "()I" } : Jvm.MethodName) ({ cls := "ShareVault", name := "openingCount", desc := "()I" } : Jvm.MethodName)).before a s = true := h _ (tin2 (List.mem_of_getElem? (l := tables_1_2) (i := 121) rfl)) rfl a
set_option maxRecDepth 100000 in
theorem q363 {s : State} {a : Array Value} (h : mT s) : (Jvm.Cond.methodLink "ShareVaultLaw" (257 : Nat) ({ cls := "ShareVault", name := "logCount", desc := "()I" } : Jvm.MethodName)).before a s = true := h _ (tin2 (List.mem_of_getElem? (l := tables_1_2) (i := 123) rfl)) rfl a
set_option maxRecDepth 100000 in
theorem q364 {s : State} {a : Array Value} (h : mT s) : (Jvm.Cond.instanceMethod ({ cls := "ShareVault", name := "logCount", desc := "()I" } : Jvm.MethodName)).before a s = true := h _ (tin2 (List.mem_of_getElem? (l := tables_1_2) (i := 124) rfl)) rfl a
set_option maxRecDepth 100000 in
theorem q365 {s : State} {a : Array Value} (h : mT s) : (Jvm.Cond.selects "ShareVault" ({ cls := "ShareVault", name := "logCount", desc := "()I" } : Jvm.MethodName) ({ cls := "ShareVault", name := "logCount", desc := "()I" } : Jvm.MethodName)).before a s = true := h _ (tin2 (List.mem_of_getElem? (l := tables_1_2) (i := 125) rfl)) rfl a
set_option maxRecDepth 100000 in
theorem q367 {s : State} {a : Array Value} (h : mT s) : (Jvm.Cond.methodLink "ShareVaultLaw" (200 : Nat) ({ cls := "ShareVault", name := "undoCount", desc := "()I" } : Jvm.MethodName)).before a s = true := h _ (tin2 (List.mem_of_getElem? (l := tables_1_2) (i := 127) rfl)) rfl a
set_option maxRecDepth 100000 in
theorem q368 {s : State} {a : Array Value} (h : mT s) : (Jvm.Cond.instanceMethod ({ cls := "ShareVault", name := "undoCount", desc := "()I" } : Jvm.MethodName)).before a s = true := h _ (tin2 (List.mem_of_getElem? (l := tables_1_2) (i := 128) rfl)) rfl a
set_option maxRecDepth 100000 in
theorem q369 {s : State} {a : Array Value} (h : mT s) : (Jvm.Cond.selects "ShareVault" ({ cls := "ShareVault", name := "undoCount", desc := "()I" } : Jvm.MethodName) ({ cls := "ShareVault", name := "undoCount", desc := "()I" } : Jvm.MethodName)).before a s = true := h _ (tin2 (List.mem_of_getElem? (l := tables_1_2) (i := 129) rfl)) rfl a
set_option maxRecDepth 100000 in
theorem q371 {s : State} {a : Array Value} (h : mT s) : (Jvm.Cond.methodLink "ShareVaultLaw" (203 : Nat) ({ cls := "ShareVaultLaw", name := "pick", desc := "([III)I" } : Jvm.MethodName)).before a s = true := h _ (tin2 (List.mem_of_getElem? (l := tables_1_2) (i := 131) rfl)) rfl a
set_option maxRecDepth 100000 in
theorem q372 {s : State} {a : Array Value} (h : mT s) : (Jvm.Cond.static ({ cls := "ShareVaultLaw", name := "pick", desc := "([III)I" } : Jvm.MethodName)).before a s = true := h _ (tin2 (List.mem_of_getElem? (l := tables_1_2) (i := 132) rfl)) rfl a
set_option maxRecDepth 100000 in
theorem q374 {s : State} {a : Array Value} (h : mT s) : (Jvm.Cond.methodLink "ShareVaultLaw" (8 : Nat) ({ cls := "ShareVaultLaw", name := "cell", desc := "([II)I" } : Jvm.MethodName)).before a s = true := h _ (tin2 (List.mem_of_getElem? (l := tables_1_2) (i := 134) rfl)) rfl a
set_option maxRecDepth 100000 in
theorem q375 {s : State} {a : Array Value} (h : mT s) : (Jvm.Cond.static ({ cls := "ShareVaultLaw", name := "cell", desc := "([II)I" } : Jvm.MethodName)).before a s = true := h _ (tin2 (List.mem_of_getElem? (l := tables_1_2) (i := 135) rfl)) rfl a
set_option maxRecDepth 100000 in
theorem q377 {s : State} {a : Array Value} (h : mT s) : (Jvm.Cond.constant "ShareVaultLaw" (7 : Nat) (40503 : Int32)).before a s = true := h _ (tin2 (List.mem_of_getElem? (l := tables_1_2) (i := 137) rfl)) rfl a
set_option maxRecDepth 100000 in
theorem q378 {s : State} {a : Array Value} (h : mT s) : (Jvm.Cond.methodLink "ShareVaultLaw" (222 : Nat) ({ cls := "ShareVaultLaw", name := "threshold", desc := "(LShareVault;)I" } : Jvm.MethodName)).before a s = true := h _ (tin2 (List.mem_of_getElem? (l := tables_1_2) (i := 138) rfl)) rfl a
set_option maxRecDepth 100000 in
theorem q379 {s : State} {a : Array Value} (h : mT s) : (Jvm.Cond.static ({ cls := "ShareVaultLaw", name := "threshold", desc := "(LShareVault;)I" } : Jvm.MethodName)).before a s = true := h _ (tin2 (List.mem_of_getElem? (l := tables_1_2) (i := 139) rfl)) rfl a
set_option maxRecDepth 100000 in
theorem q381 {s : State} {a : Array Value} (h : mT s) : (Jvm.Cond.classLink "ShareVaultLaw" (65 : Nat) "java/util/NoSuchElementException").before a s = true := h _ (tin2 (List.mem_of_getElem? (l := tables_1_2) (i := 141) rfl)) rfl a
set_option maxRecDepth 100000 in
theorem q382 {s : State} {a : Array Value} (h : mT s) : (Jvm.Cond.methodLink "ShareVaultLaw" (62 : Nat) ({ cls := "ShareVault", name := "threshold", desc := "()I" } : Jvm.MethodName)).before a s = true := h _ (tin2 (List.mem_of_getElem? (l := tables_1_2) (i := 142) rfl)) rfl a
set_option maxRecDepth 100000 in
theorem q383 {s : State} {a : Array Value} (h : mT s) : (Jvm.Cond.instanceMethod ({ cls := "ShareVault", name := "threshold", desc := "()I" } : Jvm.MethodName)).before a s = true := h _ (tin2 (List.mem_of_getElem? (l := tables_1_2) (i := 143) rfl)) rfl a
set_option maxRecDepth 100000 in
theorem q384 {s : State} {a : Array Value} (h : mT s) : (Jvm.Cond.selects "ShareVault" ({ cls := "ShareVault", name := "threshold", desc := "()I" } : Jvm.MethodName) ({ cls := "ShareVault", name := "threshold", desc := "()I" } : Jvm.MethodName)).before a s = true := h _ (tin2 (List.mem_of_getElem? (l := tables_1_2) (i := 144) rfl)) rfl a
set_option maxRecDepth 100000 in
theorem q392 {s : State} {a : Array Value} (h : mT s) : (Jvm.Cond.castable "java/util/NoSuchElementException" "java/util/NoSuchElementException").before a s = true := h _ (tin2 (List.mem_of_getElem? (l := tables_1_2) (i := 152) rfl)) rfl a
set_option maxRecDepth 100000 in
theorem q462 {s : State} {a : Array Value} (h : mT s) : (Jvm.Cond.methodLink "ShareVaultLaw" (255 : Nat) ({ cls := "ShareVaultLaw", name := "isPresented", desc := "(LShareVault;I)I" } : Jvm.MethodName)).before a s = true := h _ (tin2 (List.mem_of_getElem? (l := tables_1_2) (i := 222) rfl)) rfl a
set_option maxRecDepth 100000 in
theorem q463 {s : State} {a : Array Value} (h : mT s) : (Jvm.Cond.static ({ cls := "ShareVaultLaw", name := "isPresented", desc := "(LShareVault;I)I" } : Jvm.MethodName)).before a s = true := h _ (tin2 (List.mem_of_getElem? (l := tables_1_2) (i := 223) rfl)) rfl a
set_option maxRecDepth 100000 in
theorem q465 {s : State} {a : Array Value} (h : mT s) : (Jvm.Cond.classLink "ShareVaultLaw" (32 : Nat) "java/lang/IndexOutOfBoundsException").before a s = true := h _ (tin2 (List.mem_of_getElem? (l := tables_1_2) (i := 225) rfl)) rfl a
set_option maxRecDepth 100000 in
theorem q489 {s : State} {a : Array Value} (h : mT s) : (Jvm.Cond.methodLink "ShareVaultLaw" (73 : Nat) ({ cls := "ShareVault", name := "isPresented", desc := "(I)Z" } : Jvm.MethodName)).before a s = true := h _ (tin3 (List.mem_of_getElem? (l := tables_1_3) (i := 9) rfl)) rfl a
set_option maxRecDepth 100000 in
theorem q490 {s : State} {a : Array Value} (h : mT s) : (Jvm.Cond.instanceMethod ({ cls := "ShareVault", name := "isPresented", desc := "(I)Z" } : Jvm.MethodName)).before a s = true := h _ (tin3 (List.mem_of_getElem? (l := tables_1_3) (i := 10) rfl)) rfl a
set_option maxRecDepth 100000 in
theorem q491 {s : State} {a : Array Value} (h : mT s) : (Jvm.Cond.selects "ShareVault" ({ cls := "ShareVault", name := "isPresented", desc := "(I)Z" } : Jvm.MethodName) ({ cls := "ShareVault", name := "isPresented", desc := "(I)Z" } : Jvm.MethodName)).before a s = true := h _ (tin3 (List.mem_of_getElem? (l := tables_1_3) (i := 11) rfl)) rfl a
set_option maxRecDepth 100000 in
theorem q503 {s : State} {a : Array Value} (h : mT s) : (Jvm.Cond.castable "java/lang/IndexOutOfBoundsException" "java/lang/IndexOutOfBoundsException").before a s = true := h _ (tin3 (List.mem_of_getElem? (l := tables_1_3) (i := 23) rfl)) rfl a
set_option maxRecDepth 100000 in
theorem q518 {s : State} {a : Array Value} (h : mT s) : (Jvm.Cond.methodLink "ShareVaultLaw" (253 : Nat) ({ cls := "ShareVaultLaw", name := "presentedAt", desc := "(LShareVault;I)I" } : Jvm.MethodName)).before a s = true := h _ (tin3 (List.mem_of_getElem? (l := tables_1_3) (i := 38) rfl)) rfl a
set_option maxRecDepth 100000 in
theorem q519 {s : State} {a : Array Value} (h : mT s) : (Jvm.Cond.static ({ cls := "ShareVaultLaw", name := "presentedAt", desc := "(LShareVault;I)I" } : Jvm.MethodName)).before a s = true := h _ (tin3 (List.mem_of_getElem? (l := tables_1_3) (i := 39) rfl)) rfl a
set_option maxRecDepth 100000 in
theorem q521 {s : State} {a : Array Value} (h : mT s) : (Jvm.Cond.methodLink "ShareVaultLaw" (76 : Nat) ({ cls := "ShareVault", name := "presentedAt", desc := "(I)I" } : Jvm.MethodName)).before a s = true := h _ (tin3 (List.mem_of_getElem? (l := tables_1_3) (i := 41) rfl)) rfl a
set_option maxRecDepth 100000 in
theorem q522 {s : State} {a : Array Value} (h : mT s) : (Jvm.Cond.instanceMethod ({ cls := "ShareVault", name := "presentedAt", desc := "(I)I" } : Jvm.MethodName)).before a s = true := h _ (tin3 (List.mem_of_getElem? (l := tables_1_3) (i := 42) rfl)) rfl a
set_option maxRecDepth 100000 in
theorem q523 {s : State} {a : Array Value} (h : mT s) : (Jvm.Cond.selects "ShareVault" ({ cls := "ShareVault", name := "presentedAt", desc := "(I)I" } : Jvm.MethodName) ({ cls := "ShareVault", name := "presentedAt", desc := "(I)I" } : Jvm.MethodName)).before a s = true := h _ (tin3 (List.mem_of_getElem? (l := tables_1_3) (i := 43) rfl)) rfl a
set_option maxRecDepth 100000 in
theorem q526 {s : State} {a : Array Value} (h : mT s) : (Jvm.Cond.methodLink "ShareVaultLaw" (226 : Nat) ({ cls := "ShareVaultLaw", name := "toldSecret", desc := "(LShareVault;)I" } : Jvm.MethodName)).before a s = true := h _ (tin3 (List.mem_of_getElem? (l := tables_1_3) (i := 46) rfl)) rfl a
set_option maxRecDepth 100000 in
theorem q527 {s : State} {a : Array Value} (h : mT s) : (Jvm.Cond.static ({ cls := "ShareVaultLaw", name := "toldSecret", desc := "(LShareVault;)I" } : Jvm.MethodName)).before a s = true := h _ (tin3 (List.mem_of_getElem? (l := tables_1_3) (i := 47) rfl)) rfl a
set_option maxRecDepth 100000 in
theorem q529 {s : State} {a : Array Value} (h : mT s) : (Jvm.Cond.methodLink "ShareVaultLaw" (79 : Nat) ({ cls := "ShareVault", name := "toldSecret", desc := "()I" } : Jvm.MethodName)).before a s = true := h _ (tin3 (List.mem_of_getElem? (l := tables_1_3) (i := 49) rfl)) rfl a
set_option maxRecDepth 100000 in
theorem q530 {s : State} {a : Array Value} (h : mT s) : (Jvm.Cond.instanceMethod ({ cls := "ShareVault", name := "toldSecret", desc := "()I" } : Jvm.MethodName)).before a s = true := h _ (tin3 (List.mem_of_getElem? (l := tables_1_3) (i := 50) rfl)) rfl a
set_option maxRecDepth 100000 in
theorem q531 {s : State} {a : Array Value} (h : mT s) : (Jvm.Cond.selects "ShareVault" ({ cls := "ShareVault", name := "toldSecret", desc := "()I" } : Jvm.MethodName) ({ cls := "ShareVault", name := "toldSecret", desc := "()I" } : Jvm.MethodName)).before a s = true := h _ (tin3 (List.mem_of_getElem? (l := tables_1_3) (i := 51) rfl)) rfl a
set_option maxRecDepth 100000 in
theorem q556 {s : State} {a : Array Value} (h : mT s) : (Jvm.Cond.methodLink "ShareVaultLaw" (224 : Nat) ({ cls := "ShareVaultLaw", name := "doAgree", desc := "(LShareVault;)I" } : Jvm.MethodName)).before a s = true := h _ (tin3 (List.mem_of_getElem? (l := tables_1_3) (i := 76) rfl)) rfl a
set_option maxRecDepth 100000 in
theorem q557 {s : State} {a : Array Value} (h : mT s) : (Jvm.Cond.static ({ cls := "ShareVaultLaw", name := "doAgree", desc := "(LShareVault;)I" } : Jvm.MethodName)).before a s = true := h _ (tin3 (List.mem_of_getElem? (l := tables_1_3) (i := 77) rfl)) rfl a
set_option maxRecDepth 100000 in
theorem q559 {s : State} {a : Array Value} (h : mT s) : (Jvm.Cond.methodLink "ShareVaultLaw" (88 : Nat) ({ cls := "ShareVault", name := "doAgree", desc := "()Z" } : Jvm.MethodName)).before a s = true := h _ (tin3 (List.mem_of_getElem? (l := tables_1_3) (i := 79) rfl)) rfl a
set_option maxRecDepth 100000 in
theorem q560 {s : State} {a : Array Value} (h : mT s) : (Jvm.Cond.instanceMethod ({ cls := "ShareVault", name := "doAgree", desc := "()Z" } : Jvm.MethodName)).before a s = true := h _ (tin3 (List.mem_of_getElem? (l := tables_1_3) (i := 80) rfl)) rfl a
set_option maxRecDepth 100000 in
theorem q561 {s : State} {a : Array Value} (h : mT s) : (Jvm.Cond.selects "ShareVault" ({ cls := "ShareVault", name := "doAgree", desc := "()Z" } : Jvm.MethodName) ({ cls := "ShareVault", name := "doAgree", desc := "()Z" } : Jvm.MethodName)).before a s = true := h _ (tin3 (List.mem_of_getElem? (l := tables_1_3) (i := 81) rfl)) rfl a
set_option maxRecDepth 100000 in
theorem q574 {s : State} {a : Array Value} (h : mT s) : (Jvm.Cond.methodLink "ShareVaultLaw" (230 : Nat) ({ cls := "ShareVaultLaw", name := "hoursUntilVisit", desc := "(LShareVault;I)I" } : Jvm.MethodName)).before a s = true := h _ (tin3 (List.mem_of_getElem? (l := tables_1_3) (i := 94) rfl)) rfl a
set_option maxRecDepth 100000 in
theorem q575 {s : State} {a : Array Value} (h : mT s) : (Jvm.Cond.static ({ cls := "ShareVaultLaw", name := "hoursUntilVisit", desc := "(LShareVault;I)I" } : Jvm.MethodName)).before a s = true := h _ (tin3 (List.mem_of_getElem? (l := tables_1_3) (i := 95) rfl)) rfl a
set_option maxRecDepth 100000 in
theorem q577 {s : State} {a : Array Value} (h : mT s) : (Jvm.Cond.classLink "ShareVaultLaw" (26 : Nat) "java/lang/IllegalArgumentException").before a s = true := h _ (tin3 (List.mem_of_getElem? (l := tables_1_3) (i := 97) rfl)) rfl a
set_option maxRecDepth 100000 in
theorem q578 {s : State} {a : Array Value} (h : mT s) : (Jvm.Cond.methodLink "ShareVaultLaw" (109 : Nat) ({ cls := "ShareVault", name := "hoursUntilVisit", desc := "(I)I" } : Jvm.MethodName)).before a s = true := h _ (tin3 (List.mem_of_getElem? (l := tables_1_3) (i := 98) rfl)) rfl a
set_option maxRecDepth 100000 in
theorem q579 {s : State} {a : Array Value} (h : mT s) : (Jvm.Cond.instanceMethod ({ cls := "ShareVault", name := "hoursUntilVisit", desc := "(I)I" } : Jvm.MethodName)).before a s = true := h _ (tin3 (List.mem_of_getElem? (l := tables_1_3) (i := 99) rfl)) rfl a
set_option maxRecDepth 100000 in
theorem q580 {s : State} {a : Array Value} (h : mT s) : (Jvm.Cond.selects "ShareVault" ({ cls := "ShareVault", name := "hoursUntilVisit", desc := "(I)I" } : Jvm.MethodName) ({ cls := "ShareVault", name := "hoursUntilVisit", desc := "(I)I" } : Jvm.MethodName)).before a s = true := h _ (tin3 (List.mem_of_getElem? (l := tables_1_3) (i := 100) rfl)) rfl a
set_option maxRecDepth 100000 in
theorem q591 {s : State} {a : Array Value} (h : mT s) : (Jvm.Cond.castable "java/lang/IllegalArgumentException" "java/lang/IllegalArgumentException").before a s = true := h _ (tin3 (List.mem_of_getElem? (l := tables_1_3) (i := 111) rfl)) rfl a
set_option maxRecDepth 100000 in
theorem q629 {s : State} {a : Array Value} (h : mT s) : (Jvm.Cond.methodLink "ShareVaultLaw" (228 : Nat) ({ cls := "ShareVaultLaw", name := "alarmsIn", desc := "(LShareVault;I)I" } : Jvm.MethodName)).before a s = true := h _ (tin3 (List.mem_of_getElem? (l := tables_1_3) (i := 149) rfl)) rfl a
set_option maxRecDepth 100000 in
theorem q630 {s : State} {a : Array Value} (h : mT s) : (Jvm.Cond.static ({ cls := "ShareVaultLaw", name := "alarmsIn", desc := "(LShareVault;I)I" } : Jvm.MethodName)).before a s = true := h _ (tin3 (List.mem_of_getElem? (l := tables_1_3) (i := 150) rfl)) rfl a
set_option maxRecDepth 100000 in
theorem q632 {s : State} {a : Array Value} (h : mT s) : (Jvm.Cond.methodLink "ShareVaultLaw" (115 : Nat) ({ cls := "ShareVault", name := "alarmsIn", desc := "(I)I" } : Jvm.MethodName)).before a s = true := h _ (tin3 (List.mem_of_getElem? (l := tables_1_3) (i := 152) rfl)) rfl a
set_option maxRecDepth 100000 in
theorem q633 {s : State} {a : Array Value} (h : mT s) : (Jvm.Cond.instanceMethod ({ cls := "ShareVault", name := "alarmsIn", desc := "(I)I" } : Jvm.MethodName)).before a s = true := h _ (tin3 (List.mem_of_getElem? (l := tables_1_3) (i := 153) rfl)) rfl a
set_option maxRecDepth 100000 in
theorem q634 {s : State} {a : Array Value} (h : mT s) : (Jvm.Cond.selects "ShareVault" ({ cls := "ShareVault", name := "alarmsIn", desc := "(I)I" } : Jvm.MethodName) ({ cls := "ShareVault", name := "alarmsIn", desc := "(I)I" } : Jvm.MethodName)).before a s = true := h _ (tin3 (List.mem_of_getElem? (l := tables_1_3) (i := 154) rfl)) rfl a
set_option maxRecDepth 100000 in
theorem q647 {s : State} {a : Array Value} (h : mT s) : (Jvm.Cond.methodLink "ShareVaultLaw" (264 : Nat) ({ cls := "ShareVaultLaw", name := "logHour", desc := "(LShareVault;I)I" } : Jvm.MethodName)).before a s = true := h _ (tin3 (List.mem_of_getElem? (l := tables_1_3) (i := 167) rfl)) rfl a
set_option maxRecDepth 100000 in
theorem q648 {s : State} {a : Array Value} (h : mT s) : (Jvm.Cond.static ({ cls := "ShareVaultLaw", name := "logHour", desc := "(LShareVault;I)I" } : Jvm.MethodName)).before a s = true := h _ (tin3 (List.mem_of_getElem? (l := tables_1_3) (i := 168) rfl)) rfl a
set_option maxRecDepth 100000 in
theorem q650 {s : State} {a : Array Value} (h : mT s) : (Jvm.Cond.methodLink "ShareVaultLaw" (124 : Nat) ({ cls := "ShareVault", name := "logHour", desc := "(I)I" } : Jvm.MethodName)).before a s = true := h _ (tin3 (List.mem_of_getElem? (l := tables_1_3) (i := 170) rfl)) rfl a
set_option maxRecDepth 100000 in
theorem q651 {s : State} {a : Array Value} (h : mT s) : (Jvm.Cond.instanceMethod ({ cls := "ShareVault", name := "logHour", desc := "(I)I" } : Jvm.MethodName)).before a s = true := h _ (tin3 (List.mem_of_getElem? (l := tables_1_3) (i := 171) rfl)) rfl a
set_option maxRecDepth 100000 in
theorem q652 {s : State} {a : Array Value} (h : mT s) : (Jvm.Cond.selects "ShareVault" ({ cls := "ShareVault", name := "logHour", desc := "(I)I" } : Jvm.MethodName) ({ cls := "ShareVault", name := "logHour", desc := "(I)I" } : Jvm.MethodName)).before a s = true := h _ (tin3 (List.mem_of_getElem? (l := tables_1_3) (i := 172) rfl)) rfl a
set_option maxRecDepth 100000 in
theorem q659 {s : State} {a : Array Value} (h : mT s) : (Jvm.Cond.methodLink "ShareVaultLaw" (260 : Nat) ({ cls := "ShareVaultLaw", name := "logKind", desc := "(LShareVault;I)I" } : Jvm.MethodName)).before a s = true := h _ (tin3 (List.mem_of_getElem? (l := tables_1_3) (i := 179) rfl)) rfl a
set_option maxRecDepth 100000 in
theorem q660 {s : State} {a : Array Value} (h : mT s) : (Jvm.Cond.static ({ cls := "ShareVaultLaw", name := "logKind", desc := "(LShareVault;I)I" } : Jvm.MethodName)).before a s = true := h _ (tin3 (List.mem_of_getElem? (l := tables_1_3) (i := 180) rfl)) rfl a
set_option maxRecDepth 100000 in
theorem q662 {s : State} {a : Array Value} (h : mT s) : (Jvm.Cond.methodLink "ShareVaultLaw" (127 : Nat) ({ cls := "ShareVault", name := "logKind", desc := "(I)C" } : Jvm.MethodName)).before a s = true := h _ (tin3 (List.mem_of_getElem? (l := tables_1_3) (i := 182) rfl)) rfl a
set_option maxRecDepth 100000 in
theorem q663 {s : State} {a : Array Value} (h : mT s) : (Jvm.Cond.instanceMethod ({ cls := "ShareVault", name := "logKind", desc := "(I)C" } : Jvm.MethodName)).before a s = true := h _ (tin3 (List.mem_of_getElem? (l := tables_1_3) (i := 183) rfl)) rfl a
set_option maxRecDepth 100000 in
theorem q664 {s : State} {a : Array Value} (h : mT s) : (Jvm.Cond.selects "ShareVault" ({ cls := "ShareVault", name := "logKind", desc := "(I)C" } : Jvm.MethodName) ({ cls := "ShareVault", name := "logKind", desc := "(I)C" } : Jvm.MethodName)).before a s = true := h _ (tin3 (List.mem_of_getElem? (l := tables_1_3) (i := 184) rfl)) rfl a
set_option maxRecDepth 100000 in
theorem q666 {s : State} {a : Array Value} (h : mT s) : (Jvm.Cond.methodLink "ShareVaultLaw" (262 : Nat) ({ cls := "ShareVaultLaw", name := "logDetail", desc := "(LShareVault;I)I" } : Jvm.MethodName)).before a s = true := h _ (tin3 (List.mem_of_getElem? (l := tables_1_3) (i := 186) rfl)) rfl a
set_option maxRecDepth 100000 in
theorem q667 {s : State} {a : Array Value} (h : mT s) : (Jvm.Cond.static ({ cls := "ShareVaultLaw", name := "logDetail", desc := "(LShareVault;I)I" } : Jvm.MethodName)).before a s = true := h _ (tin3 (List.mem_of_getElem? (l := tables_1_3) (i := 187) rfl)) rfl a
set_option maxRecDepth 100000 in
theorem q669 {s : State} {a : Array Value} (h : mT s) : (Jvm.Cond.methodLink "ShareVaultLaw" (131 : Nat) ({ cls := "ShareVault", name := "logDetail", desc := "(I)I" } : Jvm.MethodName)).before a s = true := h _ (tin3 (List.mem_of_getElem? (l := tables_1_3) (i := 189) rfl)) rfl a
set_option maxRecDepth 100000 in
theorem q670 {s : State} {a : Array Value} (h : mT s) : (Jvm.Cond.instanceMethod ({ cls := "ShareVault", name := "logDetail", desc := "(I)I" } : Jvm.MethodName)).before a s = true := h _ (tin3 (List.mem_of_getElem? (l := tables_1_3) (i := 190) rfl)) rfl a
set_option maxRecDepth 100000 in
theorem q671 {s : State} {a : Array Value} (h : mT s) : (Jvm.Cond.selects "ShareVault" ({ cls := "ShareVault", name := "logDetail", desc := "(I)I" } : Jvm.MethodName) ({ cls := "ShareVault", name := "logDetail", desc := "(I)I" } : Jvm.MethodName)).before a s = true := h _ (tin3 (List.mem_of_getElem? (l := tables_1_3) (i := 191) rfl)) rfl a
set_option maxRecDepth 100000 in
theorem q673 {s : State} {a : Array Value} (h : mT s) : (Jvm.Cond.methodLink "ShareVaultLaw" (241 : Nat) ({ cls := "ShareVaultLaw", name := "visit", desc := "(LShareVault;I)Z" } : Jvm.MethodName)).before a s = true := h _ (tin3 (List.mem_of_getElem? (l := tables_1_3) (i := 193) rfl)) rfl a
set_option maxRecDepth 100000 in
theorem q674 {s : State} {a : Array Value} (h : mT s) : (Jvm.Cond.static ({ cls := "ShareVaultLaw", name := "visit", desc := "(LShareVault;I)Z" } : Jvm.MethodName)).before a s = true := h _ (tin3 (List.mem_of_getElem? (l := tables_1_3) (i := 194) rfl)) rfl a
set_option maxRecDepth 100000 in
theorem q676 {s : State} {a : Array Value} (h : mT s) : (Jvm.Cond.methodLink "ShareVaultLaw" (279 : Nat) ({ cls := "ShareVault", name := "guardCount", desc := "()I" } : Jvm.MethodName)).before a s = true := h _ (tin3 (List.mem_of_getElem? (l := tables_1_3) (i := 196) rfl)) rfl a
set_option maxRecDepth 100000 in
theorem q677 {s : State} {a : Array Value} (h : mT s) : (Jvm.Cond.instanceMethod ({ cls := "ShareVault", name := "guardCount", desc := "()I" } : Jvm.MethodName)).before a s = true := h _ (tin3 (List.mem_of_getElem? (l := tables_1_3) (i := 197) rfl)) rfl a
set_option maxRecDepth 100000 in
theorem q678 {s : State} {a : Array Value} (h : mT s) : (Jvm.Cond.selects "ShareVault" ({ cls := "ShareVault", name := "guardCount", desc := "()I" } : Jvm.MethodName) ({ cls := "ShareVault", name := "guardCount", desc := "()I" } : Jvm.MethodName)).before a s = true := h _ (tin3 (List.mem_of_getElem? (l := tables_1_3) (i := 198) rfl)) rfl a
set_option maxRecDepth 100000 in
theorem q680 {s : State} {a : Array Value} (h : mT s) : (Jvm.Cond.methodLink "ShareVaultLaw" (282 : Nat) ({ cls := "ShareVaultLaw", name := "zoneOf", desc := "(LShareVault;I)I" } : Jvm.MethodName)).before a s = true := h _ (tin3 (List.mem_of_getElem? (l := tables_1_3) (i := 200) rfl)) rfl a
set_option maxRecDepth 100000 in
theorem q681 {s : State} {a : Array Value} (h : mT s) : (Jvm.Cond.static ({ cls := "ShareVaultLaw", name := "zoneOf", desc := "(LShareVault;I)I" } : Jvm.MethodName)).before a s = true := h _ (tin3 (List.mem_of_getElem? (l := tables_1_3) (i := 201) rfl)) rfl a
set_option maxRecDepth 100000 in
theorem q683 {s : State} {a : Array Value} (h : mT s) : (Jvm.Cond.methodLink "ShareVaultLaw" (97 : Nat) ({ cls := "ShareVault", name := "zoneOf", desc := "(I)I" } : Jvm.MethodName)).before a s = true := h _ (tin3 (List.mem_of_getElem? (l := tables_1_3) (i := 203) rfl)) rfl a
set_option maxRecDepth 100000 in
theorem q684 {s : State} {a : Array Value} (h : mT s) : (Jvm.Cond.instanceMethod ({ cls := "ShareVault", name := "zoneOf", desc := "(I)I" } : Jvm.MethodName)).before a s = true := h _ (tin3 (List.mem_of_getElem? (l := tables_1_3) (i := 204) rfl)) rfl a
set_option maxRecDepth 100000 in
theorem q685 {s : State} {a : Array Value} (h : mT s) : (Jvm.Cond.selects "ShareVault" ({ cls := "ShareVault", name := "zoneOf", desc := "(I)I" } : Jvm.MethodName) ({ cls := "ShareVault", name := "zoneOf", desc := "(I)I" } : Jvm.MethodName)).before a s = true := h _ (tin3 (List.mem_of_getElem? (l := tables_1_3) (i := 205) rfl)) rfl a
set_option maxRecDepth 100000 in
theorem q699 {s : State} {a : Array Value} (h : mT s) : (Jvm.Cond.methodLink "ShareVaultLaw" (284 : Nat) ({ cls := "ShareVaultLaw", name := "isCorrect", desc := "(LShareVault;I)I" } : Jvm.MethodName)).before a s = true := h _ (tin3 (List.mem_of_getElem? (l := tables_1_3) (i := 219) rfl)) rfl a
set_option maxRecDepth 100000 in
theorem q700 {s : State} {a : Array Value} (h : mT s) : (Jvm.Cond.static ({ cls := "ShareVaultLaw", name := "isCorrect", desc := "(LShareVault;I)I" } : Jvm.MethodName)).before a s = true := h _ (tin3 (List.mem_of_getElem? (l := tables_1_3) (i := 220) rfl)) rfl a
set_option maxRecDepth 100000 in
theorem q702 {s : State} {a : Array Value} (h : mT s) : (Jvm.Cond.methodLink "ShareVaultLaw" (70 : Nat) ({ cls := "ShareVault", name := "isCorrect", desc := "(I)Z" } : Jvm.MethodName)).before a s = true := h _ (tin3 (List.mem_of_getElem? (l := tables_1_3) (i := 222) rfl)) rfl a
set_option maxRecDepth 100000 in
theorem q703 {s : State} {a : Array Value} (h : mT s) : (Jvm.Cond.instanceMethod ({ cls := "ShareVault", name := "isCorrect", desc := "(I)Z" } : Jvm.MethodName)).before a s = true := h _ (tin3 (List.mem_of_getElem? (l := tables_1_3) (i := 223) rfl)) rfl a
set_option maxRecDepth 100000 in
theorem q704 {s : State} {a : Array Value} (h : mT s) : (Jvm.Cond.selects "ShareVault" ({ cls := "ShareVault", name := "isCorrect", desc := "(I)Z" } : Jvm.MethodName) ({ cls := "ShareVault", name := "isCorrect", desc := "(I)Z" } : Jvm.MethodName)).before a s = true := h _ (tin3 (List.mem_of_getElem? (l := tables_1_3) (i := 224) rfl)) rfl a
set_option maxRecDepth 100000 in
theorem q719 {s : State} {a : Array Value} (h : mT s) : (Jvm.Cond.classLink "ShareVaultLaw" (20 : Nat) "java/lang/UnsupportedOperationException").before a s = true := h _ (tin3 (List.mem_of_getElem? (l := tables_1_3) (i := 239) rfl)) rfl a
set_option maxRecDepth 100000 in
theorem q720 {s : State} {a : Array Value} (h : mT s) : (Jvm.Cond.methodLink "ShareVaultLaw" (14 : Nat) ({ cls := "ShareVault", name := "addHolder", desc := "()I" } : Jvm.MethodName)).before a s = true := h _ (tin4 (List.mem_of_getElem? (l := tables_1_4) (i := 0) rfl)) rfl a
set_option maxRecDepth 100000 in
theorem q721 {s : State} {a : Array Value} (h : mT s) : (Jvm.Cond.instanceMethod ({ cls := "ShareVault", name := "addHolder", desc := "()I" } : Jvm.MethodName)).before a s = true := h _ (tin4 (List.mem_of_getElem? (l := tables_1_4) (i := 1) rfl)) rfl a
set_option maxRecDepth 100000 in
theorem q722 {s : State} {a : Array Value} (h : mT s) : (Jvm.Cond.selects "ShareVault" ({ cls := "ShareVault", name := "addHolder", desc := "()I" } : Jvm.MethodName) ({ cls := "ShareVault", name := "addHolder", desc := "()I" } : Jvm.MethodName)).before a s = true := h _ (tin4 (List.mem_of_getElem? (l := tables_1_4) (i := 2) rfl)) rfl a
set_option maxRecDepth 100000 in
theorem q773 {s : State} {a : Array Value} (h : mT s) : (Jvm.Cond.castable "java/lang/UnsupportedOperationException" "java/lang/UnsupportedOperationException").before a s = true := h _ (tin4 (List.mem_of_getElem? (l := tables_1_4) (i := 53) rfl)) rfl a
set_option maxRecDepth 100000 in
theorem q797 {s : State} {a : Array Value} (h : mT s) : (Jvm.Cond.methodLink "ShareVaultLaw" (22 : Nat) ({ cls := "ShareVault", name := "seal", desc := "(IIII)I" } : Jvm.MethodName)).before a s = true := h _ (tin4 (List.mem_of_getElem? (l := tables_1_4) (i := 77) rfl)) rfl a
set_option maxRecDepth 100000 in
theorem q798 {s : State} {a : Array Value} (h : mT s) : (Jvm.Cond.instanceMethod ({ cls := "ShareVault", name := "seal", desc := "(IIII)I" } : Jvm.MethodName)).before a s = true := h _ (tin4 (List.mem_of_getElem? (l := tables_1_4) (i := 78) rfl)) rfl a
set_option maxRecDepth 100000 in
theorem q799 {s : State} {a : Array Value} (h : mT s) : (Jvm.Cond.selects "ShareVault" ({ cls := "ShareVault", name := "seal", desc := "(IIII)I" } : Jvm.MethodName) ({ cls := "ShareVault", name := "seal", desc := "(IIII)I" } : Jvm.MethodName)).before a s = true := h _ (tin4 (List.mem_of_getElem? (l := tables_1_4) (i := 79) rfl)) rfl a
set_option maxRecDepth 100000 in
theorem q819 {s : State} {a : Array Value} (h : mT s) : (Jvm.Cond.methodLink "ShareVaultLaw" (28 : Nat) ({ cls := "ShareVault", name := "setShare", desc := "(II)I" } : Jvm.MethodName)).before a s = true := h _ (tin4 (List.mem_of_getElem? (l := tables_1_4) (i := 99) rfl)) rfl a
set_option maxRecDepth 100000 in
theorem q820 {s : State} {a : Array Value} (h : mT s) : (Jvm.Cond.instanceMethod ({ cls := "ShareVault", name := "setShare", desc := "(II)I" } : Jvm.MethodName)).before a s = true := h _ (tin4 (List.mem_of_getElem? (l := tables_1_4) (i := 100) rfl)) rfl a
set_option maxRecDepth 100000 in
theorem q821 {s : State} {a : Array Value} (h : mT s) : (Jvm.Cond.selects "ShareVault" ({ cls := "ShareVault", name := "setShare", desc := "(II)I" } : Jvm.MethodName) ({ cls := "ShareVault", name := "setShare", desc := "(II)I" } : Jvm.MethodName)).before a s = true := h _ (tin4 (List.mem_of_getElem? (l := tables_1_4) (i := 101) rfl)) rfl a
set_option maxRecDepth 100000 in
theorem q831 {s : State} {a : Array Value} (h : mT s) : (Jvm.Cond.methodLink "ShareVaultLaw" (34 : Nat) ({ cls := "ShareVault", name := "present", desc := "(I)I" } : Jvm.MethodName)).before a s = true := h _ (tin4 (List.mem_of_getElem? (l := tables_1_4) (i := 111) rfl)) rfl a
set_option maxRecDepth 100000 in
theorem q832 {s : State} {a : Array Value} (h : mT s) : (Jvm.Cond.instanceMethod ({ cls := "ShareVault", name := "present", desc := "(I)I" } : Jvm.MethodName)).before a s = true := h _ (tin4 (List.mem_of_getElem? (l := tables_1_4) (i := 112) rfl)) rfl a
set_option maxRecDepth 100000 in
theorem q833 {s : State} {a : Array Value} (h : mT s) : (Jvm.Cond.selects "ShareVault" ({ cls := "ShareVault", name := "present", desc := "(I)I" } : Jvm.MethodName) ({ cls := "ShareVault", name := "present", desc := "(I)I" } : Jvm.MethodName)).before a s = true := h _ (tin4 (List.mem_of_getElem? (l := tables_1_4) (i := 113) rfl)) rfl a
set_option maxRecDepth 100000 in
theorem q846 {s : State} {a : Array Value} (h : mT s) : (Jvm.Cond.methodLink "ShareVaultLaw" (38 : Nat) ({ cls := "ShareVault", name := "takeBack", desc := "(I)I" } : Jvm.MethodName)).before a s = true := h _ (tin4 (List.mem_of_getElem? (l := tables_1_4) (i := 126) rfl)) rfl a
set_option maxRecDepth 100000 in
theorem q847 {s : State} {a : Array Value} (h : mT s) : (Jvm.Cond.instanceMethod ({ cls := "ShareVault", name := "takeBack", desc := "(I)I" } : Jvm.MethodName)).before a s = true := h _ (tin4 (List.mem_of_getElem? (l := tables_1_4) (i := 127) rfl)) rfl a
set_option maxRecDepth 100000 in
theorem q848 {s : State} {a : Array Value} (h : mT s) : (Jvm.Cond.selects "ShareVault" ({ cls := "ShareVault", name := "takeBack", desc := "(I)I" } : Jvm.MethodName) ({ cls := "ShareVault", name := "takeBack", desc := "(I)I" } : Jvm.MethodName)).before a s = true := h _ (tin4 (List.mem_of_getElem? (l := tables_1_4) (i := 128) rfl)) rfl a
set_option maxRecDepth 100000 in
theorem q861 {s : State} {a : Array Value} (h : mT s) : (Jvm.Cond.methodLink "ShareVaultLaw" (41 : Nat) ({ cls := "ShareVault", name := "openVault", desc := "()Z" } : Jvm.MethodName)).before a s = true := h _ (tin4 (List.mem_of_getElem? (l := tables_1_4) (i := 141) rfl)) rfl a
set_option maxRecDepth 100000 in
theorem q862 {s : State} {a : Array Value} (h : mT s) : (Jvm.Cond.instanceMethod ({ cls := "ShareVault", name := "openVault", desc := "()Z" } : Jvm.MethodName)).before a s = true := h _ (tin4 (List.mem_of_getElem? (l := tables_1_4) (i := 142) rfl)) rfl a
set_option maxRecDepth 100000 in
theorem q863 {s : State} {a : Array Value} (h : mT s) : (Jvm.Cond.selects "ShareVault" ({ cls := "ShareVault", name := "openVault", desc := "()Z" } : Jvm.MethodName) ({ cls := "ShareVault", name := "openVault", desc := "()Z" } : Jvm.MethodName)).before a s = true := h _ (tin4 (List.mem_of_getElem? (l := tables_1_4) (i := 143) rfl)) rfl a
set_option maxRecDepth 100000 in
theorem q899 {s : State} {a : Array Value} (h : mT s) : (Jvm.Cond.methodLink "ShareVaultLaw" (45 : Nat) ({ cls := "ShareVault", name := "closeVault", desc := "()I" } : Jvm.MethodName)).before a s = true := h _ (tin4 (List.mem_of_getElem? (l := tables_1_4) (i := 179) rfl)) rfl a
set_option maxRecDepth 100000 in
theorem q900 {s : State} {a : Array Value} (h : mT s) : (Jvm.Cond.instanceMethod ({ cls := "ShareVault", name := "closeVault", desc := "()I" } : Jvm.MethodName)).before a s = true := h _ (tin4 (List.mem_of_getElem? (l := tables_1_4) (i := 180) rfl)) rfl a
set_option maxRecDepth 100000 in
theorem q901 {s : State} {a : Array Value} (h : mT s) : (Jvm.Cond.selects "ShareVault" ({ cls := "ShareVault", name := "closeVault", desc := "()I" } : Jvm.MethodName) ({ cls := "ShareVault", name := "closeVault", desc := "()I" } : Jvm.MethodName)).before a s = true := h _ (tin4 (List.mem_of_getElem? (l := tables_1_4) (i := 181) rfl)) rfl a
set_option maxRecDepth 100000 in
theorem q910 {s : State} {a : Array Value} (h : mT s) : (Jvm.Cond.methodLink "ShareVaultLaw" (48 : Nat) ({ cls := "ShareVault", name := "addGuard", desc := "(IZI)I" } : Jvm.MethodName)).before a s = true := h _ (tin4 (List.mem_of_getElem? (l := tables_1_4) (i := 190) rfl)) rfl a
set_option maxRecDepth 100000 in
theorem q911 {s : State} {a : Array Value} (h : mT s) : (Jvm.Cond.instanceMethod ({ cls := "ShareVault", name := "addGuard", desc := "(IZI)I" } : Jvm.MethodName)).before a s = true := h _ (tin4 (List.mem_of_getElem? (l := tables_1_4) (i := 191) rfl)) rfl a
set_option maxRecDepth 100000 in
theorem q912 {s : State} {a : Array Value} (h : mT s) : (Jvm.Cond.selects "ShareVault" ({ cls := "ShareVault", name := "addGuard", desc := "(IZI)I" } : Jvm.MethodName) ({ cls := "ShareVault", name := "addGuard", desc := "(IZI)I" } : Jvm.MethodName)).before a s = true := h _ (tin4 (List.mem_of_getElem? (l := tables_1_4) (i := 192) rfl)) rfl a
set_option maxRecDepth 100000 in
theorem q926 {s : State} {a : Array Value} (h : mT s) : (Jvm.Cond.methodLink "ShareVaultLaw" (52 : Nat) ({ cls := "ShareVault", name := "turnGuard", desc := "(I)Z" } : Jvm.MethodName)).before a s = true := h _ (tin4 (List.mem_of_getElem? (l := tables_1_4) (i := 206) rfl)) rfl a
set_option maxRecDepth 100000 in
theorem q927 {s : State} {a : Array Value} (h : mT s) : (Jvm.Cond.instanceMethod ({ cls := "ShareVault", name := "turnGuard", desc := "(I)Z" } : Jvm.MethodName)).before a s = true := h _ (tin4 (List.mem_of_getElem? (l := tables_1_4) (i := 207) rfl)) rfl a
set_option maxRecDepth 100000 in
theorem q928 {s : State} {a : Array Value} (h : mT s) : (Jvm.Cond.selects "ShareVault" ({ cls := "ShareVault", name := "turnGuard", desc := "(I)Z" } : Jvm.MethodName) ({ cls := "ShareVault", name := "turnGuard", desc := "(I)Z" } : Jvm.MethodName)).before a s = true := h _ (tin4 (List.mem_of_getElem? (l := tables_1_4) (i := 208) rfl)) rfl a
set_option maxRecDepth 100000 in
theorem q938 {s : State} {a : Array Value} (h : mT s) : (Jvm.Cond.methodLink "ShareVaultLaw" (56 : Nat) ({ cls := "ShareVault", name := "hum", desc := "(II)I" } : Jvm.MethodName)).before a s = true := h _ (tin4 (List.mem_of_getElem? (l := tables_1_4) (i := 218) rfl)) rfl a
set_option maxRecDepth 100000 in
theorem q939 {s : State} {a : Array Value} (h : mT s) : (Jvm.Cond.instanceMethod ({ cls := "ShareVault", name := "hum", desc := "(II)I" } : Jvm.MethodName)).before a s = true := h _ (tin4 (List.mem_of_getElem? (l := tables_1_4) (i := 219) rfl)) rfl a
set_option maxRecDepth 100000 in
theorem q940 {s : State} {a : Array Value} (h : mT s) : (Jvm.Cond.selects "ShareVault" ({ cls := "ShareVault", name := "hum", desc := "(II)I" } : Jvm.MethodName) ({ cls := "ShareVault", name := "hum", desc := "(II)I" } : Jvm.MethodName)).before a s = true := h _ (tin4 (List.mem_of_getElem? (l := tables_1_4) (i := 220) rfl)) rfl a
set_option maxRecDepth 100000 in
theorem q950 {s : State} {a : Array Value} (h : mT s) : (Jvm.Cond.methodLink "ShareVaultLaw" (59 : Nat) ({ cls := "ShareVault", name := "passHours", desc := "(I)I" } : Jvm.MethodName)).before a s = true := h _ (tin4 (List.mem_of_getElem? (l := tables_1_4) (i := 230) rfl)) rfl a
set_option maxRecDepth 100000 in
theorem q951 {s : State} {a : Array Value} (h : mT s) : (Jvm.Cond.instanceMethod ({ cls := "ShareVault", name := "passHours", desc := "(I)I" } : Jvm.MethodName)).before a s = true := h _ (tin4 (List.mem_of_getElem? (l := tables_1_4) (i := 231) rfl)) rfl a
set_option maxRecDepth 100000 in
theorem q952 {s : State} {a : Array Value} (h : mT s) : (Jvm.Cond.selects "ShareVault" ({ cls := "ShareVault", name := "passHours", desc := "(I)I" } : Jvm.MethodName) ({ cls := "ShareVault", name := "passHours", desc := "(I)I" } : Jvm.MethodName)).before a s = true := h _ (tin4 (List.mem_of_getElem? (l := tables_1_4) (i := 232) rfl)) rfl a
set_option maxRecDepth 100000 in
theorem q1211 {s : State} {a : Array Value} (h : mT s) : (Jvm.Cond.methodLink "ShareVaultLaw" (172 : Nat) ({ cls := "java/lang/String", name := "length", desc := "()I" } : Jvm.MethodName)).before a s = true := h _ (tin6 (List.mem_of_getElem? (l := tables_1_6) (i := 11) rfl)) rfl a
set_option maxRecDepth 100000 in
theorem q1212 {s : State} {a : Array Value} (h : mT s) : (Jvm.Cond.methodLink "ShareVaultLaw" (177 : Nat) ({ cls := "java/lang/String", name := "charAt", desc := "(I)C" } : Jvm.MethodName)).before a s = true := h _ (tin6 (List.mem_of_getElem? (l := tables_1_6) (i := 12) rfl)) rfl a
set_option maxRecDepth 100000 in
theorem q1236 {s : State} {a : Array Value} (h : mT s) : (Jvm.Cond.methodLink "ShareVaultLaw" (180 : Nat) ({ cls := "ShareVaultLaw", name := "feed", desc := "(LShareVault;C)I" } : Jvm.MethodName)).before a s = true := h _ (tin6 (List.mem_of_getElem? (l := tables_1_6) (i := 36) rfl)) rfl a
set_option maxRecDepth 100000 in
theorem q1237 {s : State} {a : Array Value} (h : mT s) : (Jvm.Cond.static ({ cls := "ShareVaultLaw", name := "feed", desc := "(LShareVault;C)I" } : Jvm.MethodName)).before a s = true := h _ (tin6 (List.mem_of_getElem? (l := tables_1_6) (i := 37) rfl)) rfl a
set_option maxRecDepth 100000 in
theorem q1239 {s : State} {a : Array Value} (h : mT s) : (Jvm.Cond.classLink "ShareVaultLaw" (155 : Nat) "java/lang/IllegalStateException").before a s = true := h _ (tin6 (List.mem_of_getElem? (l := tables_1_6) (i := 39) rfl)) rfl a
set_option maxRecDepth 100000 in
theorem q1240 {s : State} {a : Array Value} (h : mT s) : (Jvm.Cond.methodLink "ShareVaultLaw" (151 : Nat) ({ cls := "ShareVault", name := "feed", desc := "(C)I" } : Jvm.MethodName)).before a s = true := h _ (tin6 (List.mem_of_getElem? (l := tables_1_6) (i := 40) rfl)) rfl a
set_option maxRecDepth 100000 in
theorem q1241 {s : State} {a : Array Value} (h : mT s) : (Jvm.Cond.instanceMethod ({ cls := "ShareVault", name := "feed", desc := "(C)I" } : Jvm.MethodName)).before a s = true := h _ (tin6 (List.mem_of_getElem? (l := tables_1_6) (i := 41) rfl)) rfl a
set_option maxRecDepth 100000 in
theorem q1242 {s : State} {a : Array Value} (h : mT s) : (Jvm.Cond.selects "ShareVault" ({ cls := "ShareVault", name := "feed", desc := "(C)I" } : Jvm.MethodName) ({ cls := "ShareVault", name := "feed", desc := "(C)I" } : Jvm.MethodName)).before a s = true := h _ (tin6 (List.mem_of_getElem? (l := tables_1_6) (i := 42) rfl)) rfl a
set_option maxRecDepth 100000 in
theorem q1246 {s : State} {a : Array Value} (h : mT s) : (Jvm.Cond.castable "java/lang/IllegalStateException" "java/lang/IllegalStateException").before a s = true := h _ (tin6 (List.mem_of_getElem? (l := tables_1_6) (i := 46) rfl)) rfl a
set_option maxRecDepth 100000 in
theorem q1264 {s : State} {a : Array Value} (h : mT s) : (Jvm.Cond.methodLink "ShareVaultLaw" (183 : Nat) ({ cls := "ShareVaultLaw", name := "runCommands", desc := "(LShareVault;)I" } : Jvm.MethodName)).before a s = true := h _ (tin6 (List.mem_of_getElem? (l := tables_1_6) (i := 64) rfl)) rfl a
set_option maxRecDepth 100000 in
theorem q1265 {s : State} {a : Array Value} (h : mT s) : (Jvm.Cond.static ({ cls := "ShareVaultLaw", name := "runCommands", desc := "(LShareVault;)I" } : Jvm.MethodName)).before a s = true := h _ (tin6 (List.mem_of_getElem? (l := tables_1_6) (i := 65) rfl)) rfl a
set_option maxRecDepth 100000 in
theorem q1267 {s : State} {a : Array Value} (h : mT s) : (Jvm.Cond.methodLink "ShareVaultLaw" (157 : Nat) ({ cls := "ShareVault", name := "runCommands", desc := "()I" } : Jvm.MethodName)).before a s = true := h _ (tin6 (List.mem_of_getElem? (l := tables_1_6) (i := 67) rfl)) rfl a
set_option maxRecDepth 100000 in
theorem q1268 {s : State} {a : Array Value} (h : mT s) : (Jvm.Cond.instanceMethod ({ cls := "ShareVault", name := "runCommands", desc := "()I" } : Jvm.MethodName)).before a s = true := h _ (tin6 (List.mem_of_getElem? (l := tables_1_6) (i := 68) rfl)) rfl a
set_option maxRecDepth 100000 in
theorem q1269 {s : State} {a : Array Value} (h : mT s) : (Jvm.Cond.selects "ShareVault" ({ cls := "ShareVault", name := "runCommands", desc := "()I" } : Jvm.MethodName) ({ cls := "ShareVault", name := "runCommands", desc := "()I" } : Jvm.MethodName)).before a s = true := h _ (tin6 (List.mem_of_getElem? (l := tables_1_6) (i := 69) rfl)) rfl a
set_option maxRecDepth 100000 in
theorem q1358 {s : State} {a : Array Value} (h : mT s) : (Jvm.Cond.methodLink "ShareVaultLaw" (196 : Nat) ({ cls := "ShareVaultLaw", name := "sum", desc := "(LShareVault;)J" } : Jvm.MethodName)).before a s = true := h _ (tin6 (List.mem_of_getElem? (l := tables_1_6) (i := 158) rfl)) rfl a
set_option maxRecDepth 100000 in
theorem q1359 {s : State} {a : Array Value} (h : mT s) : (Jvm.Cond.static ({ cls := "ShareVaultLaw", name := "sum", desc := "(LShareVault;)J" } : Jvm.MethodName)).before a s = true := h _ (tin6 (List.mem_of_getElem? (l := tables_1_6) (i := 159) rfl)) rfl a
set_option maxRecDepth 100000 in
theorem q1361 {s : State} {a : Array Value} (h : mT s) : (Jvm.Cond.constantLong "ShareVaultLaw" (341 : Nat) (1009 : Int64)).before a s = true := h _ (tin6 (List.mem_of_getElem? (l := tables_1_6) (i := 161) rfl)) rfl a
set_option maxRecDepth 100000 in
theorem q1362 {s : State} {a : Array Value} (h : mT s) : (Jvm.Cond.constantLong "ShareVaultLaw" (343 : Nat) (101 : Int64)).before a s = true := h _ (tin6 (List.mem_of_getElem? (l := tables_1_6) (i := 162) rfl)) rfl a
set_option maxRecDepth 100000 in
theorem q1363 {s : State} {a : Array Value} (h : mT s) : (Jvm.Cond.constantLong "ShareVaultLaw" (345 : Nat) (31 : Int64)).before a s = true := h _ (tin6 (List.mem_of_getElem? (l := tables_1_6) (i := 163) rfl)) rfl a
set_option maxRecDepth 100000 in
theorem q1364 {s : State} {a : Array Value} (h : mT s) : (Jvm.Cond.constantLong "ShareVaultLaw" (347 : Nat) (7 : Int64)).before a s = true := h _ (tin6 (List.mem_of_getElem? (l := tables_1_6) (i := 164) rfl)) rfl a
set_option maxRecDepth 100000 in
theorem q1365 {s : State} {a : Array Value} (h : mT s) : (Jvm.Cond.methodLink "ShareVaultLaw" (349 : Nat) ({ cls := "ShareVaultLaw", name := "share", desc := "(LShareVault;I)I" } : Jvm.MethodName)).before a s = true := h _ (tin6 (List.mem_of_getElem? (l := tables_1_6) (i := 165) rfl)) rfl a
set_option maxRecDepth 100000 in
theorem q1366 {s : State} {a : Array Value} (h : mT s) : (Jvm.Cond.static ({ cls := "ShareVaultLaw", name := "share", desc := "(LShareVault;I)I" } : Jvm.MethodName)).before a s = true := h _ (tin6 (List.mem_of_getElem? (l := tables_1_6) (i := 166) rfl)) rfl a
set_option maxRecDepth 100000 in
theorem q1368 {s : State} {a : Array Value} (h : mT s) : (Jvm.Cond.methodLink "ShareVaultLaw" (67 : Nat) ({ cls := "ShareVault", name := "share", desc := "(I)I" } : Jvm.MethodName)).before a s = true := h _ (tin6 (List.mem_of_getElem? (l := tables_1_6) (i := 168) rfl)) rfl a
set_option maxRecDepth 100000 in
theorem q1369 {s : State} {a : Array Value} (h : mT s) : (Jvm.Cond.instanceMethod ({ cls := "ShareVault", name := "share", desc := "(I)I" } : Jvm.MethodName)).before a s = true := h _ (tin6 (List.mem_of_getElem? (l := tables_1_6) (i := 169) rfl)) rfl a
set_option maxRecDepth 100000 in
theorem q1370 {s : State} {a : Array Value} (h : mT s) : (Jvm.Cond.selects "ShareVault" ({ cls := "ShareVault", name := "share", desc := "(I)I" } : Jvm.MethodName) ({ cls := "ShareVault", name := "share", desc := "(I)I" } : Jvm.MethodName)).before a s = true := h _ (tin6 (List.mem_of_getElem? (l := tables_1_6) (i := 170) rfl)) rfl a
set_option maxRecDepth 100000 in
theorem q1372 {s : State} {a : Array Value} (h : mT s) : (Jvm.Cond.methodLink "ShareVaultLaw" (351 : Nat) ({ cls := "ShareVaultLaw", name := "noise", desc := "(LShareVault;I)I" } : Jvm.MethodName)).before a s = true := h _ (tin6 (List.mem_of_getElem? (l := tables_1_6) (i := 172) rfl)) rfl a
set_option maxRecDepth 100000 in
theorem q1373 {s : State} {a : Array Value} (h : mT s) : (Jvm.Cond.static ({ cls := "ShareVaultLaw", name := "noise", desc := "(LShareVault;I)I" } : Jvm.MethodName)).before a s = true := h _ (tin6 (List.mem_of_getElem? (l := tables_1_6) (i := 173) rfl)) rfl a
set_option maxRecDepth 100000 in
theorem q1375 {s : State} {a : Array Value} (h : mT s) : (Jvm.Cond.methodLink "ShareVaultLaw" (103 : Nat) ({ cls := "ShareVault", name := "noise", desc := "(I)I" } : Jvm.MethodName)).before a s = true := h _ (tin6 (List.mem_of_getElem? (l := tables_1_6) (i := 175) rfl)) rfl a
set_option maxRecDepth 100000 in
theorem q1376 {s : State} {a : Array Value} (h : mT s) : (Jvm.Cond.instanceMethod ({ cls := "ShareVault", name := "noise", desc := "(I)I" } : Jvm.MethodName)).before a s = true := h _ (tin6 (List.mem_of_getElem? (l := tables_1_6) (i := 176) rfl)) rfl a
set_option maxRecDepth 100000 in
theorem q1377 {s : State} {a : Array Value} (h : mT s) : (Jvm.Cond.selects "ShareVault" ({ cls := "ShareVault", name := "noise", desc := "(I)I" } : Jvm.MethodName) ({ cls := "ShareVault", name := "noise", desc := "(I)I" } : Jvm.MethodName)).before a s = true := h _ (tin6 (List.mem_of_getElem? (l := tables_1_6) (i := 177) rfl)) rfl a
set_option maxRecDepth 100000 in
theorem q1379 {s : State} {a : Array Value} (h : mT s) : (Jvm.Cond.methodLink "ShareVaultLaw" (353 : Nat) ({ cls := "ShareVaultLaw", name := "alarmsOf", desc := "(LShareVault;I)I" } : Jvm.MethodName)).before a s = true := h _ (tin6 (List.mem_of_getElem? (l := tables_1_6) (i := 179) rfl)) rfl a
set_option maxRecDepth 100000 in
theorem q1380 {s : State} {a : Array Value} (h : mT s) : (Jvm.Cond.static ({ cls := "ShareVaultLaw", name := "alarmsOf", desc := "(LShareVault;I)I" } : Jvm.MethodName)).before a s = true := h _ (tin6 (List.mem_of_getElem? (l := tables_1_6) (i := 180) rfl)) rfl a
set_option maxRecDepth 100000 in
theorem q1382 {s : State} {a : Array Value} (h : mT s) : (Jvm.Cond.methodLink "ShareVaultLaw" (121 : Nat) ({ cls := "ShareVault", name := "alarmsOf", desc := "(I)I" } : Jvm.MethodName)).before a s = true := h _ (tin6 (List.mem_of_getElem? (l := tables_1_6) (i := 182) rfl)) rfl a
set_option maxRecDepth 100000 in
theorem q1383 {s : State} {a : Array Value} (h : mT s) : (Jvm.Cond.instanceMethod ({ cls := "ShareVault", name := "alarmsOf", desc := "(I)I" } : Jvm.MethodName)).before a s = true := h _ (tin6 (List.mem_of_getElem? (l := tables_1_6) (i := 183) rfl)) rfl a
set_option maxRecDepth 100000 in
theorem q1384 {s : State} {a : Array Value} (h : mT s) : (Jvm.Cond.selects "ShareVault" ({ cls := "ShareVault", name := "alarmsOf", desc := "(I)I" } : Jvm.MethodName) ({ cls := "ShareVault", name := "alarmsOf", desc := "(I)I" } : Jvm.MethodName)).before a s = true := h _ (tin6 (List.mem_of_getElem? (l := tables_1_6) (i := 184) rfl)) rfl a
set_option maxRecDepth 100000 in
theorem q1386 {s : State} {a : Array Value} (h : mT s) : (Jvm.Cond.methodLink "ShareVaultLaw" (355 : Nat) ({ cls := "ShareVaultLaw", name := "isForwards", desc := "(LShareVault;I)I" } : Jvm.MethodName)).before a s = true := h _ (tin6 (List.mem_of_getElem? (l := tables_1_6) (i := 186) rfl)) rfl a
set_option maxRecDepth 100000 in
theorem q1387 {s : State} {a : Array Value} (h : mT s) : (Jvm.Cond.static ({ cls := "ShareVaultLaw", name := "isForwards", desc := "(LShareVault;I)I" } : Jvm.MethodName)).before a s = true := h _ (tin6 (List.mem_of_getElem? (l := tables_1_6) (i := 187) rfl)) rfl a
set_option maxRecDepth 100000 in
theorem q1389 {s : State} {a : Array Value} (h : mT s) : (Jvm.Cond.methodLink "ShareVaultLaw" (100 : Nat) ({ cls := "ShareVault", name := "isForwards", desc := "(I)Z" } : Jvm.MethodName)).before a s = true := h _ (tin6 (List.mem_of_getElem? (l := tables_1_6) (i := 189) rfl)) rfl a
set_option maxRecDepth 100000 in
theorem q1390 {s : State} {a : Array Value} (h : mT s) : (Jvm.Cond.instanceMethod ({ cls := "ShareVault", name := "isForwards", desc := "(I)Z" } : Jvm.MethodName)).before a s = true := h _ (tin6 (List.mem_of_getElem? (l := tables_1_6) (i := 190) rfl)) rfl a
set_option maxRecDepth 100000 in
theorem q1391 {s : State} {a : Array Value} (h : mT s) : (Jvm.Cond.selects "ShareVault" ({ cls := "ShareVault", name := "isForwards", desc := "(I)Z" } : Jvm.MethodName) ({ cls := "ShareVault", name := "isForwards", desc := "(I)Z" } : Jvm.MethodName)).before a s = true := h _ (tin6 (List.mem_of_getElem? (l := tables_1_6) (i := 191) rfl)) rfl a
set_option maxRecDepth 100000 in
theorem q1396 {s : State} {a : Array Value} (h : mT s) : (Jvm.Cond.methodLink "ShareVaultLaw" (385 : Nat) ({ cls := "ShareVault", name := "isSealed", desc := "()Z" } : Jvm.MethodName)).before a s = true := h _ (tin6 (List.mem_of_getElem? (l := tables_1_6) (i := 196) rfl)) rfl a
set_option maxRecDepth 100000 in
theorem q1397 {s : State} {a : Array Value} (h : mT s) : (Jvm.Cond.instanceMethod ({ cls := "ShareVault", name := "isSealed", desc := "()Z" } : Jvm.MethodName)).before a s = true := h _ (tin6 (List.mem_of_getElem? (l := tables_1_6) (i := 197) rfl)) rfl a
set_option maxRecDepth 100000 in
theorem q1398 {s : State} {a : Array Value} (h : mT s) : (Jvm.Cond.selects "ShareVault" ({ cls := "ShareVault", name := "isSealed", desc := "()Z" } : Jvm.MethodName) ({ cls := "ShareVault", name := "isSealed", desc := "()Z" } : Jvm.MethodName)).before a s = true := h _ (tin6 (List.mem_of_getElem? (l := tables_1_6) (i := 198) rfl)) rfl a
set_option maxRecDepth 100000 in
theorem q1400 {s : State} {a : Array Value} (h : mT s) : (Jvm.Cond.methodLink "ShareVaultLaw" (388 : Nat) ({ cls := "ShareVaultLaw", name := "areKeys", desc := "(LShareVault;II)Z" } : Jvm.MethodName)).before a s = true := h _ (tin6 (List.mem_of_getElem? (l := tables_1_6) (i := 200) rfl)) rfl a
set_option maxRecDepth 100000 in
theorem q1401 {s : State} {a : Array Value} (h : mT s) : (Jvm.Cond.static ({ cls := "ShareVaultLaw", name := "areKeys", desc := "(LShareVault;II)Z" } : Jvm.MethodName)).before a s = true := h _ (tin6 (List.mem_of_getElem? (l := tables_1_6) (i := 201) rfl)) rfl a
set_option maxRecDepth 100000 in
theorem q1403 {s : State} {a : Array Value} (h : mT s) : (Jvm.Cond.methodLink "ShareVaultLaw" (357 : Nat) ({ cls := "java/lang/Integer", name := "bitCount", desc := "(I)I" } : Jvm.MethodName)).before a s = true := h _ (tin6 (List.mem_of_getElem? (l := tables_1_6) (i := 203) rfl)) rfl a
set_option maxRecDepth 100000 in
theorem q1409 {s : State} {a : Array Value} (h : mT s) : (Jvm.Cond.methodLink "ShareVaultLaw" (362 : Nat) ({ cls := "ShareVaultLaw", name := "toldSecretByElimination", desc := "(LShareVault;)I" } : Jvm.MethodName)).before a s = true := h _ (tin6 (List.mem_of_getElem? (l := tables_1_6) (i := 209) rfl)) rfl a
set_option maxRecDepth 100000 in
theorem q1410 {s : State} {a : Array Value} (h : mT s) : (Jvm.Cond.static ({ cls := "ShareVaultLaw", name := "toldSecretByElimination", desc := "(LShareVault;)I" } : Jvm.MethodName)).before a s = true := h _ (tin6 (List.mem_of_getElem? (l := tables_1_6) (i := 210) rfl)) rfl a
set_option maxRecDepth 100000 in
theorem q1412 {s : State} {a : Array Value} (h : mT s) : (Jvm.Cond.methodLink "ShareVaultLaw" (82 : Nat) ({ cls := "ShareVault", name := "toldSecretByElimination", desc := "()I" } : Jvm.MethodName)).before a s = true := h _ (tin6 (List.mem_of_getElem? (l := tables_1_6) (i := 212) rfl)) rfl a
set_option maxRecDepth 100000 in
theorem q1413 {s : State} {a : Array Value} (h : mT s) : (Jvm.Cond.instanceMethod ({ cls := "ShareVault", name := "toldSecretByElimination", desc := "()I" } : Jvm.MethodName)).before a s = true := h _ (tin6 (List.mem_of_getElem? (l := tables_1_6) (i := 213) rfl)) rfl a
set_option maxRecDepth 100000 in
theorem q1414 {s : State} {a : Array Value} (h : mT s) : (Jvm.Cond.selects "ShareVault" ({ cls := "ShareVault", name := "toldSecretByElimination", desc := "()I" } : Jvm.MethodName) ({ cls := "ShareVault", name := "toldSecretByElimination", desc := "()I" } : Jvm.MethodName)).before a s = true := h _ (tin6 (List.mem_of_getElem? (l := tables_1_6) (i := 214) rfl)) rfl a
set_option maxRecDepth 100000 in
theorem q1440 {s : State} {a : Array Value} (h : mT s) : (Jvm.Cond.methodLink "ShareVaultLaw" (364 : Nat) ({ cls := "ShareVaultLaw", name := "toldValue", desc := "(LShareVault;I)I" } : Jvm.MethodName)).before a s = true := h _ (tin7 (List.mem_of_getElem? (l := tables_1_7) (i := 0) rfl)) rfl a
set_option maxRecDepth 100000 in
theorem q1441 {s : State} {a : Array Value} (h : mT s) : (Jvm.Cond.static ({ cls := "ShareVaultLaw", name := "toldValue", desc := "(LShareVault;I)I" } : Jvm.MethodName)).before a s = true := h _ (tin7 (List.mem_of_getElem? (l := tables_1_7) (i := 1) rfl)) rfl a
set_option maxRecDepth 100000 in
theorem q1443 {s : State} {a : Array Value} (h : mT s) : (Jvm.Cond.methodLink "ShareVaultLaw" (85 : Nat) ({ cls := "ShareVault", name := "toldValue", desc := "(I)I" } : Jvm.MethodName)).before a s = true := h _ (tin7 (List.mem_of_getElem? (l := tables_1_7) (i := 3) rfl)) rfl a
set_option maxRecDepth 100000 in
theorem q1444 {s : State} {a : Array Value} (h : mT s) : (Jvm.Cond.instanceMethod ({ cls := "ShareVault", name := "toldValue", desc := "(I)I" } : Jvm.MethodName)).before a s = true := h _ (tin7 (List.mem_of_getElem? (l := tables_1_7) (i := 4) rfl)) rfl a
set_option maxRecDepth 100000 in
theorem q1445 {s : State} {a : Array Value} (h : mT s) : (Jvm.Cond.selects "ShareVault" ({ cls := "ShareVault", name := "toldValue", desc := "(I)I" } : Jvm.MethodName) ({ cls := "ShareVault", name := "toldValue", desc := "(I)I" } : Jvm.MethodName)).before a s = true := h _ (tin7 (List.mem_of_getElem? (l := tables_1_7) (i := 5) rfl)) rfl a
set_option maxRecDepth 100000 in
theorem q1448 {s : State} {a : Array Value} (h : mT s) : (Jvm.Cond.methodLink "ShareVaultLaw" (366 : Nat) ({ cls := "ShareVaultLaw", name := "mostAgreeing", desc := "(LShareVault;)I" } : Jvm.MethodName)).before a s = true := h _ (tin7 (List.mem_of_getElem? (l := tables_1_7) (i := 8) rfl)) rfl a
set_option maxRecDepth 100000 in
theorem q1449 {s : State} {a : Array Value} (h : mT s) : (Jvm.Cond.static ({ cls := "ShareVaultLaw", name := "mostAgreeing", desc := "(LShareVault;)I" } : Jvm.MethodName)).before a s = true := h _ (tin7 (List.mem_of_getElem? (l := tables_1_7) (i := 9) rfl)) rfl a
set_option maxRecDepth 100000 in
theorem q1451 {s : State} {a : Array Value} (h : mT s) : (Jvm.Cond.methodLink "ShareVaultLaw" (91 : Nat) ({ cls := "ShareVault", name := "mostAgreeing", desc := "()I" } : Jvm.MethodName)).before a s = true := h _ (tin7 (List.mem_of_getElem? (l := tables_1_7) (i := 11) rfl)) rfl a
set_option maxRecDepth 100000 in
theorem q1452 {s : State} {a : Array Value} (h : mT s) : (Jvm.Cond.instanceMethod ({ cls := "ShareVault", name := "mostAgreeing", desc := "()I" } : Jvm.MethodName)).before a s = true := h _ (tin7 (List.mem_of_getElem? (l := tables_1_7) (i := 12) rfl)) rfl a
set_option maxRecDepth 100000 in
theorem q1453 {s : State} {a : Array Value} (h : mT s) : (Jvm.Cond.selects "ShareVault" ({ cls := "ShareVault", name := "mostAgreeing", desc := "()I" } : Jvm.MethodName) ({ cls := "ShareVault", name := "mostAgreeing", desc := "()I" } : Jvm.MethodName)).before a s = true := h _ (tin7 (List.mem_of_getElem? (l := tables_1_7) (i := 13) rfl)) rfl a
set_option maxRecDepth 100000 in
theorem q1470 {s : State} {a : Array Value} (h : mT s) : (Jvm.Cond.methodLink "ShareVaultLaw" (368 : Nat) ({ cls := "ShareVaultLaw", name := "mostAgreeingBySets", desc := "(LShareVault;)I" } : Jvm.MethodName)).before a s = true := h _ (tin7 (List.mem_of_getElem? (l := tables_1_7) (i := 30) rfl)) rfl a
set_option maxRecDepth 100000 in
theorem q1471 {s : State} {a : Array Value} (h : mT s) : (Jvm.Cond.static ({ cls := "ShareVaultLaw", name := "mostAgreeingBySets", desc := "(LShareVault;)I" } : Jvm.MethodName)).before a s = true := h _ (tin7 (List.mem_of_getElem? (l := tables_1_7) (i := 31) rfl)) rfl a
set_option maxRecDepth 100000 in
theorem q1473 {s : State} {a : Array Value} (h : mT s) : (Jvm.Cond.methodLink "ShareVaultLaw" (94 : Nat) ({ cls := "ShareVault", name := "mostAgreeingBySets", desc := "()I" } : Jvm.MethodName)).before a s = true := h _ (tin7 (List.mem_of_getElem? (l := tables_1_7) (i := 33) rfl)) rfl a
set_option maxRecDepth 100000 in
theorem q1474 {s : State} {a : Array Value} (h : mT s) : (Jvm.Cond.instanceMethod ({ cls := "ShareVault", name := "mostAgreeingBySets", desc := "()I" } : Jvm.MethodName)).before a s = true := h _ (tin7 (List.mem_of_getElem? (l := tables_1_7) (i := 34) rfl)) rfl a
set_option maxRecDepth 100000 in
theorem q1475 {s : State} {a : Array Value} (h : mT s) : (Jvm.Cond.selects "ShareVault" ({ cls := "ShareVault", name := "mostAgreeingBySets", desc := "()I" } : Jvm.MethodName) ({ cls := "ShareVault", name := "mostAgreeingBySets", desc := "()I" } : Jvm.MethodName)).before a s = true := h _ (tin7 (List.mem_of_getElem? (l := tables_1_7) (i := 35) rfl)) rfl a
set_option maxRecDepth 100000 in
theorem q1482 {s : State} {a : Array Value} (h : mT s) : (Jvm.Cond.methodLink "ShareVaultLaw" (392 : Nat) ({ cls := "ShareVaultLaw", name := "areZones", desc := "(LShareVault;)Z" } : Jvm.MethodName)).before a s = true := h _ (tin7 (List.mem_of_getElem? (l := tables_1_7) (i := 42) rfl)) rfl a
set_option maxRecDepth 100000 in
theorem q1483 {s : State} {a : Array Value} (h : mT s) : (Jvm.Cond.static ({ cls := "ShareVaultLaw", name := "areZones", desc := "(LShareVault;)Z" } : Jvm.MethodName)).before a s = true := h _ (tin7 (List.mem_of_getElem? (l := tables_1_7) (i := 43) rfl)) rfl a
set_option maxRecDepth 100000 in
theorem q1485 {s : State} {a : Array Value} (h : mT s) : (Jvm.Cond.methodLink "ShareVaultLaw" (370 : Nat) ({ cls := "ShareVaultLaw", name := "zoneByNoise", desc := "(LShareVault;I)I" } : Jvm.MethodName)).before a s = true := h _ (tin7 (List.mem_of_getElem? (l := tables_1_7) (i := 45) rfl)) rfl a
set_option maxRecDepth 100000 in
theorem q1486 {s : State} {a : Array Value} (h : mT s) : (Jvm.Cond.static ({ cls := "ShareVaultLaw", name := "zoneByNoise", desc := "(LShareVault;I)I" } : Jvm.MethodName)).before a s = true := h _ (tin7 (List.mem_of_getElem? (l := tables_1_7) (i := 46) rfl)) rfl a
set_option maxRecDepth 100000 in
theorem q1488 {s : State} {a : Array Value} (h : mT s) : (Jvm.Cond.methodLink "ShareVaultLaw" (118 : Nat) ({ cls := "ShareVault", name := "zoneByNoise", desc := "(I)I" } : Jvm.MethodName)).before a s = true := h _ (tin7 (List.mem_of_getElem? (l := tables_1_7) (i := 48) rfl)) rfl a
set_option maxRecDepth 100000 in
theorem q1489 {s : State} {a : Array Value} (h : mT s) : (Jvm.Cond.instanceMethod ({ cls := "ShareVault", name := "zoneByNoise", desc := "(I)I" } : Jvm.MethodName)).before a s = true := h _ (tin7 (List.mem_of_getElem? (l := tables_1_7) (i := 49) rfl)) rfl a
set_option maxRecDepth 100000 in
theorem q1490 {s : State} {a : Array Value} (h : mT s) : (Jvm.Cond.selects "ShareVault" ({ cls := "ShareVault", name := "zoneByNoise", desc := "(I)I" } : Jvm.MethodName) ({ cls := "ShareVault", name := "zoneByNoise", desc := "(I)I" } : Jvm.MethodName)).before a s = true := h _ (tin7 (List.mem_of_getElem? (l := tables_1_7) (i := 50) rfl)) rfl a
set_option maxRecDepth 100000 in
theorem q1505 {s : State} {a : Array Value} (h : mT s) : (Jvm.Cond.methodLink "ShareVaultLaw" (372 : Nat) ({ cls := "ShareVaultLaw", name := "isGuarded", desc := "(LShareVault;I)I" } : Jvm.MethodName)).before a s = true := h _ (tin7 (List.mem_of_getElem? (l := tables_1_7) (i := 65) rfl)) rfl a
set_option maxRecDepth 100000 in
theorem q1506 {s : State} {a : Array Value} (h : mT s) : (Jvm.Cond.static ({ cls := "ShareVaultLaw", name := "isGuarded", desc := "(LShareVault;I)I" } : Jvm.MethodName)).before a s = true := h _ (tin7 (List.mem_of_getElem? (l := tables_1_7) (i := 66) rfl)) rfl a
set_option maxRecDepth 100000 in
theorem q1508 {s : State} {a : Array Value} (h : mT s) : (Jvm.Cond.methodLink "ShareVaultLaw" (106 : Nat) ({ cls := "ShareVault", name := "isGuarded", desc := "(I)Z" } : Jvm.MethodName)).before a s = true := h _ (tin7 (List.mem_of_getElem? (l := tables_1_7) (i := 68) rfl)) rfl a
set_option maxRecDepth 100000 in
theorem q1509 {s : State} {a : Array Value} (h : mT s) : (Jvm.Cond.instanceMethod ({ cls := "ShareVault", name := "isGuarded", desc := "(I)Z" } : Jvm.MethodName)).before a s = true := h _ (tin7 (List.mem_of_getElem? (l := tables_1_7) (i := 69) rfl)) rfl a
set_option maxRecDepth 100000 in
theorem q1510 {s : State} {a : Array Value} (h : mT s) : (Jvm.Cond.selects "ShareVault" ({ cls := "ShareVault", name := "isGuarded", desc := "(I)Z" } : Jvm.MethodName) ({ cls := "ShareVault", name := "isGuarded", desc := "(I)Z" } : Jvm.MethodName)).before a s = true := h _ (tin7 (List.mem_of_getElem? (l := tables_1_7) (i := 70) rfl)) rfl a
set_option maxRecDepth 100000 in
theorem q1513 {s : State} {a : Array Value} (h : mT s) : (Jvm.Cond.methodLink "ShareVaultLaw" (374 : Nat) ({ cls := "ShareVaultLaw", name := "hoursUntilVisitByRemainders", desc := "(LShareVault;I)I" } : Jvm.MethodName)).before a s = true := h _ (tin7 (List.mem_of_getElem? (l := tables_1_7) (i := 73) rfl)) rfl a
set_option maxRecDepth 100000 in
theorem q1514 {s : State} {a : Array Value} (h : mT s) : (Jvm.Cond.static ({ cls := "ShareVaultLaw", name := "hoursUntilVisitByRemainders", desc := "(LShareVault;I)I" } : Jvm.MethodName)).before a s = true := h _ (tin7 (List.mem_of_getElem? (l := tables_1_7) (i := 74) rfl)) rfl a
set_option maxRecDepth 100000 in
theorem q1516 {s : State} {a : Array Value} (h : mT s) : (Jvm.Cond.methodLink "ShareVaultLaw" (112 : Nat) ({ cls := "ShareVault", name := "hoursUntilVisitByRemainders", desc := "(I)I" } : Jvm.MethodName)).before a s = true := h _ (tin7 (List.mem_of_getElem? (l := tables_1_7) (i := 76) rfl)) rfl a
set_option maxRecDepth 100000 in
theorem q1517 {s : State} {a : Array Value} (h : mT s) : (Jvm.Cond.instanceMethod ({ cls := "ShareVault", name := "hoursUntilVisitByRemainders", desc := "(I)I" } : Jvm.MethodName)).before a s = true := h _ (tin7 (List.mem_of_getElem? (l := tables_1_7) (i := 77) rfl)) rfl a
set_option maxRecDepth 100000 in
theorem q1518 {s : State} {a : Array Value} (h : mT s) : (Jvm.Cond.selects "ShareVault" ({ cls := "ShareVault", name := "hoursUntilVisitByRemainders", desc := "(I)I" } : Jvm.MethodName) ({ cls := "ShareVault", name := "hoursUntilVisitByRemainders", desc := "(I)I" } : Jvm.MethodName)).before a s = true := h _ (tin7 (List.mem_of_getElem? (l := tables_1_7) (i := 78) rfl)) rfl a
set_option maxRecDepth 100000 in
theorem q1530 {s : State} {a : Array Value} (h : mT s) : (Jvm.Cond.methodLink "ShareVaultLaw" (376 : Nat) ({ cls := "ShareVaultLaw", name := "alarmShare", desc := "(LShareVault;I)F" } : Jvm.MethodName)).before a s = true := h _ (tin7 (List.mem_of_getElem? (l := tables_1_7) (i := 90) rfl)) rfl a
set_option maxRecDepth 100000 in
theorem q1531 {s : State} {a : Array Value} (h : mT s) : (Jvm.Cond.static ({ cls := "ShareVaultLaw", name := "alarmShare", desc := "(LShareVault;I)F" } : Jvm.MethodName)).before a s = true := h _ (tin7 (List.mem_of_getElem? (l := tables_1_7) (i := 91) rfl)) rfl a
set_option maxRecDepth 100000 in
theorem q1533 {s : State} {a : Array Value} (h : mT s) : (Jvm.Cond.classLink "ShareVaultLaw" (139 : Nat) "java/lang/ArithmeticException").before a s = true := h _ (tin7 (List.mem_of_getElem? (l := tables_1_7) (i := 93) rfl)) rfl a
set_option maxRecDepth 100000 in
theorem q1545 {s : State} {a : Array Value} (h : mT s) : (Jvm.Cond.castable "java/lang/ArithmeticException" "java/lang/ArithmeticException").before a s = true := h _ (tin7 (List.mem_of_getElem? (l := tables_1_7) (i := 105) rfl)) rfl a
set_option maxRecDepth 100000 in
theorem q1547 {s : State} {a : Array Value} (h : mT s) : (Jvm.Cond.methodLink "ShareVaultLaw" (134 : Nat) ({ cls := "ShareVault", name := "alarmShare", desc := "(I)F" } : Jvm.MethodName)).before a s = true := h _ (tin7 (List.mem_of_getElem? (l := tables_1_7) (i := 107) rfl)) rfl a
set_option maxRecDepth 100000 in
theorem q1548 {s : State} {a : Array Value} (h : mT s) : (Jvm.Cond.instanceMethod ({ cls := "ShareVault", name := "alarmShare", desc := "(I)F" } : Jvm.MethodName)).before a s = true := h _ (tin7 (List.mem_of_getElem? (l := tables_1_7) (i := 108) rfl)) rfl a
set_option maxRecDepth 100000 in
theorem q1549 {s : State} {a : Array Value} (h : mT s) : (Jvm.Cond.selects "ShareVault" ({ cls := "ShareVault", name := "alarmShare", desc := "(I)F" } : Jvm.MethodName) ({ cls := "ShareVault", name := "alarmShare", desc := "(I)F" } : Jvm.MethodName)).before a s = true := h _ (tin7 (List.mem_of_getElem? (l := tables_1_7) (i := 109) rfl)) rfl a
set_option maxRecDepth 100000 in
theorem q1554 {s : State} {a : Array Value} (h : mT s) : (Jvm.Cond.constantFloat "ShareVaultLaw" (138 : Nat) (3265003520 : UInt32)).before a s = true := h _ (tin7 (List.mem_of_getElem? (l := tables_1_7) (i := 114) rfl)) rfl a
set_option maxRecDepth 100000 in
theorem q1555 {s : State} {a : Array Value} (h : mT s) : (Jvm.Cond.constantFloat "ShareVaultLaw" (141 : Nat) (3264479232 : UInt32)).before a s = true := h _ (tin7 (List.mem_of_getElem? (l := tables_1_7) (i := 115) rfl)) rfl a
set_option maxRecDepth 100000 in
theorem q1556 {s : State} {a : Array Value} (h : mT s) : (Jvm.Cond.methodLink "ShareVaultLaw" (379 : Nat) ({ cls := "ShareVault", name := "meanNoise", desc := "()D" } : Jvm.MethodName)).before a s = true := h _ (tin7 (List.mem_of_getElem? (l := tables_1_7) (i := 116) rfl)) rfl a
set_option maxRecDepth 100000 in
theorem q1557 {s : State} {a : Array Value} (h : mT s) : (Jvm.Cond.instanceMethod ({ cls := "ShareVault", name := "meanNoise", desc := "()D" } : Jvm.MethodName)).before a s = true := h _ (tin7 (List.mem_of_getElem? (l := tables_1_7) (i := 117) rfl)) rfl a
set_option maxRecDepth 100000 in
theorem q1558 {s : State} {a : Array Value} (h : mT s) : (Jvm.Cond.selects "ShareVault" ({ cls := "ShareVault", name := "meanNoise", desc := "()D" } : Jvm.MethodName) ({ cls := "ShareVault", name := "meanNoise", desc := "()D" } : Jvm.MethodName)).before a s = true := h _ (tin7 (List.mem_of_getElem? (l := tables_1_7) (i := 118) rfl)) rfl a
set_option maxRecDepth 100000 in
theorem q1564 {s : State} {a : Array Value} (h : mT s) : (Jvm.Cond.constantDouble "ShareVaultLaw" (383 : Nat) (4620693217682128896 : UInt64)).before a s = true := h _ (tin7 (List.mem_of_getElem? (l := tables_1_7) (i := 124) rfl)) rfl a
set_option maxRecDepth 100000 in
theorem q1565 {s : State} {a : Array Value} (h : mT s) : (Jvm.Cond.methodLink "ShareVaultLaw" (395 : Nat) ({ cls := "ShareVault", name := "isConsistent", desc := "()Z" } : Jvm.MethodName)).before a s = true := h _ (tin7 (List.mem_of_getElem? (l := tables_1_7) (i := 125) rfl)) rfl a
set_option maxRecDepth 100000 in
theorem q1566 {s : State} {a : Array Value} (h : mT s) : (Jvm.Cond.instanceMethod ({ cls := "ShareVault", name := "isConsistent", desc := "()Z" } : Jvm.MethodName)).before a s = true := h _ (tin7 (List.mem_of_getElem? (l := tables_1_7) (i := 126) rfl)) rfl a
set_option maxRecDepth 100000 in
theorem q1567 {s : State} {a : Array Value} (h : mT s) : (Jvm.Cond.selects "ShareVault" ({ cls := "ShareVault", name := "isConsistent", desc := "()Z" } : Jvm.MethodName) ({ cls := "ShareVault", name := "isConsistent", desc := "()Z" } : Jvm.MethodName)).before a s = true := h _ (tin7 (List.mem_of_getElem? (l := tables_1_7) (i := 127) rfl)) rfl a
set_option maxRecDepth 100000 in
theorem q1580 {s : State} {a : Array Value} (h : mT s) : (Jvm.Cond.methodLink "ShareVaultLaw" (398 : Nat) ({ cls := "ShareVault", name := "save", desc := "()I" } : Jvm.MethodName)).before a s = true := h _ (tin7 (List.mem_of_getElem? (l := tables_1_7) (i := 140) rfl)) rfl a
set_option maxRecDepth 100000 in
theorem q1581 {s : State} {a : Array Value} (h : mT s) : (Jvm.Cond.instanceMethod ({ cls := "ShareVault", name := "save", desc := "()I" } : Jvm.MethodName)).before a s = true := h _ (tin7 (List.mem_of_getElem? (l := tables_1_7) (i := 141) rfl)) rfl a
set_option maxRecDepth 100000 in
theorem q1582 {s : State} {a : Array Value} (h : mT s) : (Jvm.Cond.selects "ShareVault" ({ cls := "ShareVault", name := "save", desc := "()I" } : Jvm.MethodName) ({ cls := "ShareVault", name := "save", desc := "()I" } : Jvm.MethodName)).before a s = true := h _ (tin7 (List.mem_of_getElem? (l := tables_1_7) (i := 142) rfl)) rfl a
set_option maxRecDepth 100000 in
theorem q1584 {s : State} {a : Array Value} (h : mT s) : (Jvm.Cond.methodLink "ShareVaultLaw" (401 : Nat) ({ cls := "java/lang/Math", name := "min", desc := "(II)I" } : Jvm.MethodName)).before a s = true := h _ (tin7 (List.mem_of_getElem? (l := tables_1_7) (i := 144) rfl)) rfl a
set_option maxRecDepth 100000 in
theorem q1585 {s : State} {a : Array Value} (h : mT s) : (Jvm.Cond.methodLink "ShareVaultLaw" (404 : Nat) ({ cls := "ShareVaultLaw", name := "undo", desc := "(LShareVault;)I" } : Jvm.MethodName)).before a s = true := h _ (tin7 (List.mem_of_getElem? (l := tables_1_7) (i := 145) rfl)) rfl a
set_option maxRecDepth 100000 in
theorem q1586 {s : State} {a : Array Value} (h : mT s) : (Jvm.Cond.static ({ cls := "ShareVaultLaw", name := "undo", desc := "(LShareVault;)I" } : Jvm.MethodName)).before a s = true := h _ (tin7 (List.mem_of_getElem? (l := tables_1_7) (i := 146) rfl)) rfl a
set_option maxRecDepth 100000 in
theorem q1588 {s : State} {a : Array Value} (h : mT s) : (Jvm.Cond.methodLink "ShareVaultLaw" (166 : Nat) ({ cls := "ShareVault", name := "undo", desc := "()I" } : Jvm.MethodName)).before a s = true := h _ (tin7 (List.mem_of_getElem? (l := tables_1_7) (i := 148) rfl)) rfl a
set_option maxRecDepth 100000 in
theorem q1589 {s : State} {a : Array Value} (h : mT s) : (Jvm.Cond.instanceMethod ({ cls := "ShareVault", name := "undo", desc := "()I" } : Jvm.MethodName)).before a s = true := h _ (tin7 (List.mem_of_getElem? (l := tables_1_7) (i := 149) rfl)) rfl a
set_option maxRecDepth 100000 in
theorem q1590 {s : State} {a : Array Value} (h : mT s) : (Jvm.Cond.selects "ShareVault" ({ cls := "ShareVault", name := "undo", desc := "()I" } : Jvm.MethodName) ({ cls := "ShareVault", name := "undo", desc := "()I" } : Jvm.MethodName)).before a s = true := h _ (tin7 (List.mem_of_getElem? (l := tables_1_7) (i := 150) rfl)) rfl a
set_option maxRecDepth 100000 in
theorem q1597 {s : State} {a : Array Value} (h : mT s) : (Jvm.Cond.methodLink "ShareVaultLaw" (406 : Nat) ({ cls := "ShareVaultLaw", name := "restore", desc := "(LShareVault;)I" } : Jvm.MethodName)).before a s = true := h _ (tin7 (List.mem_of_getElem? (l := tables_1_7) (i := 157) rfl)) rfl a
set_option maxRecDepth 100000 in
theorem q1598 {s : State} {a : Array Value} (h : mT s) : (Jvm.Cond.static ({ cls := "ShareVaultLaw", name := "restore", desc := "(LShareVault;)I" } : Jvm.MethodName)).before a s = true := h _ (tin7 (List.mem_of_getElem? (l := tables_1_7) (i := 158) rfl)) rfl a
set_option maxRecDepth 100000 in
theorem q1600 {s : State} {a : Array Value} (h : mT s) : (Jvm.Cond.methodLink "ShareVaultLaw" (169 : Nat) ({ cls := "ShareVault", name := "restore", desc := "()I" } : Jvm.MethodName)).before a s = true := h _ (tin7 (List.mem_of_getElem? (l := tables_1_7) (i := 160) rfl)) rfl a
set_option maxRecDepth 100000 in
theorem q1601 {s : State} {a : Array Value} (h : mT s) : (Jvm.Cond.instanceMethod ({ cls := "ShareVault", name := "restore", desc := "()I" } : Jvm.MethodName)).before a s = true := h _ (tin7 (List.mem_of_getElem? (l := tables_1_7) (i := 161) rfl)) rfl a
set_option maxRecDepth 100000 in
theorem q1602 {s : State} {a : Array Value} (h : mT s) : (Jvm.Cond.selects "ShareVault" ({ cls := "ShareVault", name := "restore", desc := "()I" } : Jvm.MethodName) ({ cls := "ShareVault", name := "restore", desc := "()I" } : Jvm.MethodName)).before a s = true := h _ (tin7 (List.mem_of_getElem? (l := tables_1_7) (i := 162) rfl)) rfl a
set_option maxRecDepth 100000 in
theorem kc_L_addGuard : Cond.codeWith yL_addGuard cL_addGuard 5 (some .int) [(0, 7, 8, 26), (0, 7, 13, 20)] ∈ lw_tbl := tin4 (List.mem_of_getElem? (l := tables_1_4) (i := 189) rfl)
set_option maxRecDepth 100000 in
theorem ki_L_addGuard : Cond.initialized yL_addGuard.cls ∈ lw_tbl := tin1 (List.mem_of_getElem? (l := tables_1_1) (i := 0) rfl)
set_option maxRecDepth 100000 in
theorem kc_L_addHolder : Cond.codeWith yL_addHolder cL_addHolder 2 (some .int) [(0, 4, 5, 20)] ∈ lw_tbl := tin3 (List.mem_of_getElem? (l := tables_1_3) (i := 238) rfl)
set_option maxRecDepth 100000 in
theorem ki_L_addHolder : Cond.initialized yL_addHolder.cls ∈ lw_tbl := tin1 (List.mem_of_getElem? (l := tables_1_1) (i := 0) rfl)
set_option maxRecDepth 100000 in
theorem kc_L_alarmShare : Cond.codeWith yL_alarmShare cL_alarmShare 3 (some .float) [(0, 5, 6, 26), (0, 5, 10, 139)] ∈ lw_tbl := tin7 (List.mem_of_getElem? (l := tables_1_7) (i := 92) rfl)
set_option maxRecDepth 100000 in
theorem ki_L_alarmShare : Cond.initialized yL_alarmShare.cls ∈ lw_tbl := tin1 (List.mem_of_getElem? (l := tables_1_1) (i := 0) rfl)
set_option maxRecDepth 100000 in
theorem kc_L_alarmsIn : Cond.codeWith yL_alarmsIn cL_alarmsIn 3 (some .int) [(0, 5, 6, 26)] ∈ lw_tbl := tin3 (List.mem_of_getElem? (l := tables_1_3) (i := 151) rfl)
set_option maxRecDepth 100000 in
theorem ki_L_alarmsIn : Cond.initialized yL_alarmsIn.cls ∈ lw_tbl := tin1 (List.mem_of_getElem? (l := tables_1_1) (i := 0) rfl)
set_option maxRecDepth 100000 in
theorem kc_L_alarmsOf : Cond.codeWith yL_alarmsOf cL_alarmsOf 3 (some .int) [(0, 5, 6, 26)] ∈ lw_tbl := tin6 (List.mem_of_getElem? (l := tables_1_6) (i := 181) rfl)
set_option maxRecDepth 100000 in
theorem ki_L_alarmsOf : Cond.initialized yL_alarmsOf.cls ∈ lw_tbl := tin1 (List.mem_of_getElem? (l := tables_1_1) (i := 0) rfl)
set_option maxRecDepth 100000 in
theorem kc_L_areCorrect : Cond.code yL_areCorrect cL_areCorrect 2 (some .boolean) ∈ lw_tbl := tin3 (List.mem_of_getElem? (l := tables_1_3) (i := 218) rfl)
set_option maxRecDepth 100000 in
theorem ki_L_areCorrect : Cond.initialized yL_areCorrect.cls ∈ lw_tbl := tin1 (List.mem_of_getElem? (l := tables_1_1) (i := 0) rfl)
set_option maxRecDepth 100000 in
theorem kc_L_areKeys : Cond.code yL_areKeys cL_areKeys 17 (some .boolean) ∈ lw_tbl := tin6 (List.mem_of_getElem? (l := tables_1_6) (i := 202) rfl)
set_option maxRecDepth 100000 in
theorem ki_L_areKeys : Cond.initialized yL_areKeys.cls ∈ lw_tbl := tin1 (List.mem_of_getElem? (l := tables_1_1) (i := 0) rfl)
set_option maxRecDepth 100000 in
theorem kc_L_areZones : Cond.code yL_areZones cL_areZones 9 (some .boolean) ∈ lw_tbl := tin7 (List.mem_of_getElem? (l := tables_1_7) (i := 44) rfl)
set_option maxRecDepth 100000 in
theorem ki_L_areZones : Cond.initialized yL_areZones.cls ∈ lw_tbl := tin1 (List.mem_of_getElem? (l := tables_1_1) (i := 0) rfl)
set_option maxRecDepth 100000 in
theorem kc_L_cell : Cond.code yL_cell cL_cell 2 (some .int) ∈ lw_tbl := tin2 (List.mem_of_getElem? (l := tables_1_2) (i := 136) rfl)
set_option maxRecDepth 100000 in
theorem ki_L_cell : Cond.initialized yL_cell.cls ∈ lw_tbl := tin1 (List.mem_of_getElem? (l := tables_1_1) (i := 0) rfl)
set_option maxRecDepth 100000 in
theorem kc_L_closeVault : Cond.codeWith yL_closeVault cL_closeVault 2 (some .int) [(0, 4, 5, 20)] ∈ lw_tbl := tin4 (List.mem_of_getElem? (l := tables_1_4) (i := 178) rfl)
set_option maxRecDepth 100000 in
theorem ki_L_closeVault : Cond.initialized yL_closeVault.cls ∈ lw_tbl := tin1 (List.mem_of_getElem? (l := tables_1_1) (i := 0) rfl)
set_option maxRecDepth 100000 in
theorem kc_L_doAgree : Cond.codeWith yL_doAgree cL_doAgree 2 (some .int) [(0, 12, 13, 65)] ∈ lw_tbl := tin3 (List.mem_of_getElem? (l := tables_1_3) (i := 78) rfl)
set_option maxRecDepth 100000 in
theorem ki_L_doAgree : Cond.initialized yL_doAgree.cls ∈ lw_tbl := tin1 (List.mem_of_getElem? (l := tables_1_1) (i := 0) rfl)
set_option maxRecDepth 100000 in
theorem kc_L_feed : Cond.codeWith yL_feed cL_feed 3 (some .int) [(0, 5, 6, 155)] ∈ lw_tbl := tin6 (List.mem_of_getElem? (l := tables_1_6) (i := 38) rfl)
set_option maxRecDepth 100000 in
theorem ki_L_feed : Cond.initialized yL_feed.cls ∈ lw_tbl := tin1 (List.mem_of_getElem? (l := tables_1_1) (i := 0) rfl)
set_option maxRecDepth 100000 in
theorem kc_L_hoursUntilVisit : Cond.codeWith yL_hoursUntilVisit cL_hoursUntilVisit 3 (some .int) [(0, 5, 6, 26), (0, 5, 10, 65)] ∈ lw_tbl := tin3 (List.mem_of_getElem? (l := tables_1_3) (i := 96) rfl)
set_option maxRecDepth 100000 in
theorem ki_L_hoursUntilVisit : Cond.initialized yL_hoursUntilVisit.cls ∈ lw_tbl := tin1 (List.mem_of_getElem? (l := tables_1_1) (i := 0) rfl)
set_option maxRecDepth 100000 in
theorem kc_L_hoursUntilVisitByRemainders : Cond.codeWith yL_hoursUntilVisitByRemainders cL_hoursUntilVisitByRemainders 3 (some .int) [(0, 5, 6, 26), (0, 5, 10, 65)] ∈ lw_tbl := tin7 (List.mem_of_getElem? (l := tables_1_7) (i := 75) rfl)
set_option maxRecDepth 100000 in
theorem ki_L_hoursUntilVisitByRemainders : Cond.initialized yL_hoursUntilVisitByRemainders.cls ∈ lw_tbl := tin1 (List.mem_of_getElem? (l := tables_1_1) (i := 0) rfl)
set_option maxRecDepth 100000 in
theorem kc_L_hum : Cond.codeWith yL_hum cL_hum 4 (some .int) [(0, 6, 7, 26)] ∈ lw_tbl := tin4 (List.mem_of_getElem? (l := tables_1_4) (i := 217) rfl)
set_option maxRecDepth 100000 in
theorem ki_L_hum : Cond.initialized yL_hum.cls ∈ lw_tbl := tin1 (List.mem_of_getElem? (l := tables_1_1) (i := 0) rfl)
set_option maxRecDepth 100000 in
theorem kc_L_isCorrect : Cond.codeWith yL_isCorrect cL_isCorrect 3 (some .int) [(0, 13, 14, 32), (0, 13, 18, 65)] ∈ lw_tbl := tin3 (List.mem_of_getElem? (l := tables_1_3) (i := 221) rfl)
set_option maxRecDepth 100000 in
theorem ki_L_isCorrect : Cond.initialized yL_isCorrect.cls ∈ lw_tbl := tin1 (List.mem_of_getElem? (l := tables_1_1) (i := 0) rfl)
set_option maxRecDepth 100000 in
theorem kc_L_isForwards : Cond.codeWith yL_isForwards cL_isForwards 3 (some .int) [(0, 13, 14, 32)] ∈ lw_tbl := tin6 (List.mem_of_getElem? (l := tables_1_6) (i := 188) rfl)
set_option maxRecDepth 100000 in
theorem ki_L_isForwards : Cond.initialized yL_isForwards.cls ∈ lw_tbl := tin1 (List.mem_of_getElem? (l := tables_1_1) (i := 0) rfl)
set_option maxRecDepth 100000 in
theorem kc_L_isGuarded : Cond.codeWith yL_isGuarded cL_isGuarded 3 (some .int) [(0, 13, 14, 26)] ∈ lw_tbl := tin7 (List.mem_of_getElem? (l := tables_1_7) (i := 67) rfl)
set_option maxRecDepth 100000 in
theorem ki_L_isGuarded : Cond.initialized yL_isGuarded.cls ∈ lw_tbl := tin1 (List.mem_of_getElem? (l := tables_1_1) (i := 0) rfl)
set_option maxRecDepth 100000 in
theorem kc_L_isKept : Cond.code yL_isKept cL_isKept 6 (some .boolean) ∈ lw_tbl := tin7 (List.mem_of_getElem? (l := tables_1_7) (i := 139) rfl)
set_option maxRecDepth 100000 in
theorem ki_L_isKept : Cond.initialized yL_isKept.cls ∈ lw_tbl := tin1 (List.mem_of_getElem? (l := tables_1_1) (i := 0) rfl)
set_option maxRecDepth 100000 in
theorem kc_L_isPresented : Cond.codeWith yL_isPresented cL_isPresented 3 (some .int) [(0, 13, 14, 32)] ∈ lw_tbl := tin2 (List.mem_of_getElem? (l := tables_1_2) (i := 224) rfl)
set_option maxRecDepth 100000 in
theorem ki_L_isPresented : Cond.initialized yL_isPresented.cls ∈ lw_tbl := tin1 (List.mem_of_getElem? (l := tables_1_1) (i := 0) rfl)
set_option maxRecDepth 100000 in
theorem kc_L_isWhole : Cond.code yL_isWhole cL_isWhole 11 (some .boolean) ∈ lw_tbl := tin6 (List.mem_of_getElem? (l := tables_1_6) (i := 195) rfl)
set_option maxRecDepth 100000 in
theorem ki_L_isWhole : Cond.initialized yL_isWhole.cls ∈ lw_tbl := tin1 (List.mem_of_getElem? (l := tables_1_1) (i := 0) rfl)
set_option maxRecDepth 100000 in
theorem kc_L_logDetail : Cond.codeWith yL_logDetail cL_logDetail 3 (some .int) [(0, 5, 6, 65)] ∈ lw_tbl := tin3 (List.mem_of_getElem? (l := tables_1_3) (i := 188) rfl)
set_option maxRecDepth 100000 in
theorem ki_L_logDetail : Cond.initialized yL_logDetail.cls ∈ lw_tbl := tin1 (List.mem_of_getElem? (l := tables_1_1) (i := 0) rfl)
set_option maxRecDepth 100000 in
theorem kc_L_logHour : Cond.codeWith yL_logHour cL_logHour 3 (some .int) [(0, 5, 6, 65)] ∈ lw_tbl := tin3 (List.mem_of_getElem? (l := tables_1_3) (i := 169) rfl)
set_option maxRecDepth 100000 in
theorem ki_L_logHour : Cond.initialized yL_logHour.cls ∈ lw_tbl := tin1 (List.mem_of_getElem? (l := tables_1_1) (i := 0) rfl)
set_option maxRecDepth 100000 in
theorem kc_L_logKind : Cond.codeWith yL_logKind cL_logKind 3 (some .int) [(0, 5, 6, 65)] ∈ lw_tbl := tin3 (List.mem_of_getElem? (l := tables_1_3) (i := 181) rfl)
set_option maxRecDepth 100000 in
theorem ki_L_logKind : Cond.initialized yL_logKind.cls ∈ lw_tbl := tin1 (List.mem_of_getElem? (l := tables_1_1) (i := 0) rfl)
set_option maxRecDepth 100000 in
theorem kc_L_mostAgreeing : Cond.codeWith yL_mostAgreeing cL_mostAgreeing 2 (some .int) [(0, 4, 5, 65)] ∈ lw_tbl := tin7 (List.mem_of_getElem? (l := tables_1_7) (i := 10) rfl)
set_option maxRecDepth 100000 in
theorem ki_L_mostAgreeing : Cond.initialized yL_mostAgreeing.cls ∈ lw_tbl := tin1 (List.mem_of_getElem? (l := tables_1_1) (i := 0) rfl)
set_option maxRecDepth 100000 in
theorem kc_L_mostAgreeingBySets : Cond.codeWith yL_mostAgreeingBySets cL_mostAgreeingBySets 2 (some .int) [(0, 4, 5, 65)] ∈ lw_tbl := tin7 (List.mem_of_getElem? (l := tables_1_7) (i := 32) rfl)
set_option maxRecDepth 100000 in
theorem ki_L_mostAgreeingBySets : Cond.initialized yL_mostAgreeingBySets.cls ∈ lw_tbl := tin1 (List.mem_of_getElem? (l := tables_1_1) (i := 0) rfl)
set_option maxRecDepth 100000 in
theorem kc_L_noise : Cond.codeWith yL_noise cL_noise 3 (some .int) [(0, 5, 6, 26)] ∈ lw_tbl := tin6 (List.mem_of_getElem? (l := tables_1_6) (i := 174) rfl)
set_option maxRecDepth 100000 in
theorem ki_L_noise : Cond.initialized yL_noise.cls ∈ lw_tbl := tin1 (List.mem_of_getElem? (l := tables_1_1) (i := 0) rfl)
set_option maxRecDepth 100000 in
theorem kc_L_openVault : Cond.codeWith yL_openVault cL_openVault 2 (some .int) [(0, 12, 13, 20)] ∈ lw_tbl := tin4 (List.mem_of_getElem? (l := tables_1_4) (i := 140) rfl)
set_option maxRecDepth 100000 in
theorem ki_L_openVault : Cond.initialized yL_openVault.cls ∈ lw_tbl := tin1 (List.mem_of_getElem? (l := tables_1_1) (i := 0) rfl)
set_option maxRecDepth 100000 in
theorem kc_L_passHours : Cond.codeWith yL_passHours cL_passHours 3 (some .int) [(0, 5, 6, 26)] ∈ lw_tbl := tin4 (List.mem_of_getElem? (l := tables_1_4) (i := 229) rfl)
set_option maxRecDepth 100000 in
theorem ki_L_passHours : Cond.initialized yL_passHours.cls ∈ lw_tbl := tin1 (List.mem_of_getElem? (l := tables_1_1) (i := 0) rfl)
set_option maxRecDepth 100000 in
theorem kc_L_pick : Cond.code yL_pick cL_pick 3 (some .int) ∈ lw_tbl := tin2 (List.mem_of_getElem? (l := tables_1_2) (i := 133) rfl)
set_option maxRecDepth 100000 in
theorem ki_L_pick : Cond.initialized yL_pick.cls ∈ lw_tbl := tin1 (List.mem_of_getElem? (l := tables_1_1) (i := 0) rfl)
set_option maxRecDepth 100000 in
theorem kc_L_present : Cond.codeWith yL_present cL_present 3 (some .int) [(0, 5, 6, 32), (0, 5, 10, 20)] ∈ lw_tbl := tin4 (List.mem_of_getElem? (l := tables_1_4) (i := 110) rfl)
set_option maxRecDepth 100000 in
theorem ki_L_present : Cond.initialized yL_present.cls ∈ lw_tbl := tin1 (List.mem_of_getElem? (l := tables_1_1) (i := 0) rfl)
set_option maxRecDepth 100000 in
theorem kc_L_presentedAt : Cond.codeWith yL_presentedAt cL_presentedAt 3 (some .int) [(0, 5, 6, 65)] ∈ lw_tbl := tin3 (List.mem_of_getElem? (l := tables_1_3) (i := 40) rfl)
set_option maxRecDepth 100000 in
theorem ki_L_presentedAt : Cond.initialized yL_presentedAt.cls ∈ lw_tbl := tin1 (List.mem_of_getElem? (l := tables_1_1) (i := 0) rfl)
set_option maxRecDepth 100000 in
theorem kc_L_restore : Cond.codeWith yL_restore cL_restore 2 (some .int) [(0, 4, 5, 155)] ∈ lw_tbl := tin7 (List.mem_of_getElem? (l := tables_1_7) (i := 159) rfl)
set_option maxRecDepth 100000 in
theorem ki_L_restore : Cond.initialized yL_restore.cls ∈ lw_tbl := tin1 (List.mem_of_getElem? (l := tables_1_1) (i := 0) rfl)
set_option maxRecDepth 100000 in
theorem kc_L_runCommands : Cond.codeWith yL_runCommands cL_runCommands 2 (some .int) [(0, 4, 5, 26), (0, 4, 9, 20)] ∈ lw_tbl := tin6 (List.mem_of_getElem? (l := tables_1_6) (i := 66) rfl)
set_option maxRecDepth 100000 in
theorem ki_L_runCommands : Cond.initialized yL_runCommands.cls ∈ lw_tbl := tin1 (List.mem_of_getElem? (l := tables_1_1) (i := 0) rfl)
set_option maxRecDepth 100000 in
theorem kc_L_runs : Cond.code yL_runs cL_runs 4 (some .int) ∈ lw_tbl := tin6 (List.mem_of_getElem? (l := tables_1_6) (i := 10) rfl)
set_option maxRecDepth 100000 in
theorem ki_L_runs : Cond.initialized yL_runs.cls ∈ lw_tbl := tin1 (List.mem_of_getElem? (l := tables_1_1) (i := 0) rfl)
set_option maxRecDepth 100000 in
theorem kc_L_seal : Cond.codeWith yL_seal cL_seal 6 (some .int) [(0, 9, 10, 26), (0, 9, 15, 20)] ∈ lw_tbl := tin4 (List.mem_of_getElem? (l := tables_1_4) (i := 76) rfl)
set_option maxRecDepth 100000 in
theorem ki_L_seal : Cond.initialized yL_seal.cls ∈ lw_tbl := tin1 (List.mem_of_getElem? (l := tables_1_1) (i := 0) rfl)
set_option maxRecDepth 100000 in
theorem kc_L_setShare : Cond.codeWith yL_setShare cL_setShare 4 (some .int) [(0, 6, 7, 32), (0, 6, 11, 26), (0, 6, 15, 20)] ∈ lw_tbl := tin4 (List.mem_of_getElem? (l := tables_1_4) (i := 98) rfl)
set_option maxRecDepth 100000 in
theorem ki_L_setShare : Cond.initialized yL_setShare.cls ∈ lw_tbl := tin1 (List.mem_of_getElem? (l := tables_1_1) (i := 0) rfl)
set_option maxRecDepth 100000 in
theorem kc_L_share : Cond.codeWith yL_share cL_share 3 (some .int) [(0, 5, 6, 32), (0, 5, 10, 65)] ∈ lw_tbl := tin6 (List.mem_of_getElem? (l := tables_1_6) (i := 167) rfl)
set_option maxRecDepth 100000 in
theorem ki_L_share : Cond.initialized yL_share.cls ∈ lw_tbl := tin1 (List.mem_of_getElem? (l := tables_1_1) (i := 0) rfl)
set_option maxRecDepth 100000 in
theorem kc_L_sum : Cond.code yL_sum cL_sum 4 (some .long) ∈ lw_tbl := tin6 (List.mem_of_getElem? (l := tables_1_6) (i := 160) rfl)
set_option maxRecDepth 100000 in
theorem ki_L_sum : Cond.initialized yL_sum.cls ∈ lw_tbl := tin1 (List.mem_of_getElem? (l := tables_1_1) (i := 0) rfl)
set_option maxRecDepth 100000 in
theorem kc_L_takeBack : Cond.codeWith yL_takeBack cL_takeBack 3 (some .int) [(0, 5, 6, 32), (0, 5, 10, 20)] ∈ lw_tbl := tin4 (List.mem_of_getElem? (l := tables_1_4) (i := 125) rfl)
set_option maxRecDepth 100000 in
theorem ki_L_takeBack : Cond.initialized yL_takeBack.cls ∈ lw_tbl := tin1 (List.mem_of_getElem? (l := tables_1_1) (i := 0) rfl)
set_option maxRecDepth 100000 in
theorem kc_L_threshold : Cond.codeWith yL_threshold cL_threshold 2 (some .int) [(0, 4, 5, 65)] ∈ lw_tbl := tin2 (List.mem_of_getElem? (l := tables_1_2) (i := 140) rfl)
set_option maxRecDepth 100000 in
theorem ki_L_threshold : Cond.initialized yL_threshold.cls ∈ lw_tbl := tin1 (List.mem_of_getElem? (l := tables_1_1) (i := 0) rfl)
set_option maxRecDepth 100000 in
theorem kc_L_toldSecret : Cond.codeWith yL_toldSecret cL_toldSecret 2 (some .int) [(0, 4, 5, 65)] ∈ lw_tbl := tin3 (List.mem_of_getElem? (l := tables_1_3) (i := 48) rfl)
set_option maxRecDepth 100000 in
theorem ki_L_toldSecret : Cond.initialized yL_toldSecret.cls ∈ lw_tbl := tin1 (List.mem_of_getElem? (l := tables_1_1) (i := 0) rfl)
set_option maxRecDepth 100000 in
theorem kc_L_toldSecretByElimination : Cond.codeWith yL_toldSecretByElimination cL_toldSecretByElimination 2 (some .int) [(0, 4, 5, 65)] ∈ lw_tbl := tin6 (List.mem_of_getElem? (l := tables_1_6) (i := 211) rfl)
set_option maxRecDepth 100000 in
theorem ki_L_toldSecretByElimination : Cond.initialized yL_toldSecretByElimination.cls ∈ lw_tbl := tin1 (List.mem_of_getElem? (l := tables_1_1) (i := 0) rfl)
set_option maxRecDepth 100000 in
theorem kc_L_toldValue : Cond.codeWith yL_toldValue cL_toldValue 3 (some .int) [(0, 5, 6, 26), (0, 5, 10, 65)] ∈ lw_tbl := tin7 (List.mem_of_getElem? (l := tables_1_7) (i := 2) rfl)
set_option maxRecDepth 100000 in
theorem ki_L_toldValue : Cond.initialized yL_toldValue.cls ∈ lw_tbl := tin1 (List.mem_of_getElem? (l := tables_1_1) (i := 0) rfl)
set_option maxRecDepth 100000 in
theorem kc_L_turnGuard : Cond.codeWith yL_turnGuard cL_turnGuard 3 (some .int) [(0, 13, 14, 32)] ∈ lw_tbl := tin4 (List.mem_of_getElem? (l := tables_1_4) (i := 205) rfl)
set_option maxRecDepth 100000 in
theorem ki_L_turnGuard : Cond.initialized yL_turnGuard.cls ∈ lw_tbl := tin1 (List.mem_of_getElem? (l := tables_1_1) (i := 0) rfl)
set_option maxRecDepth 100000 in
theorem kc_L_undo : Cond.codeWith yL_undo cL_undo 2 (some .int) [(0, 4, 5, 155)] ∈ lw_tbl := tin7 (List.mem_of_getElem? (l := tables_1_7) (i := 147) rfl)
set_option maxRecDepth 100000 in
theorem ki_L_undo : Cond.initialized yL_undo.cls ∈ lw_tbl := tin1 (List.mem_of_getElem? (l := tables_1_1) (i := 0) rfl)
set_option maxRecDepth 100000 in
theorem kc_L_visit : Cond.code yL_visit cL_visit 3 (some .boolean) ∈ lw_tbl := tin3 (List.mem_of_getElem? (l := tables_1_3) (i := 195) rfl)
set_option maxRecDepth 100000 in
theorem ki_L_visit : Cond.initialized yL_visit.cls ∈ lw_tbl := tin1 (List.mem_of_getElem? (l := tables_1_1) (i := 0) rfl)
set_option maxRecDepth 100000 in
theorem kc_L_zoneByNoise : Cond.codeWith yL_zoneByNoise cL_zoneByNoise 3 (some .int) [(0, 5, 6, 65)] ∈ lw_tbl := tin7 (List.mem_of_getElem? (l := tables_1_7) (i := 47) rfl)
set_option maxRecDepth 100000 in
theorem ki_L_zoneByNoise : Cond.initialized yL_zoneByNoise.cls ∈ lw_tbl := tin1 (List.mem_of_getElem? (l := tables_1_1) (i := 0) rfl)
set_option maxRecDepth 100000 in
theorem kc_L_zoneOf : Cond.codeWith yL_zoneOf cL_zoneOf 3 (some .int) [(0, 5, 6, 32)] ∈ lw_tbl := tin3 (List.mem_of_getElem? (l := tables_1_3) (i := 202) rfl)
set_option maxRecDepth 100000 in
theorem ki_L_zoneOf : Cond.initialized yL_zoneOf.cls ∈ lw_tbl := tin1 (List.mem_of_getElem? (l := tables_1_1) (i := 0) rfl)
