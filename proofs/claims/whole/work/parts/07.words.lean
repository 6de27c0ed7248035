theorem tin1 {w : Cond} (h : w ∈ tables_1_1) : w ∈ lw_tbl := m_tin (List.mem_append_left _ h)
theorem tin2 {w : Cond} (h : w ∈ tables_1_2) : w ∈ lw_tbl := m_tin (List.mem_append_right _ (List.mem_append_left _ h))
theorem tin3 {w : Cond} (h : w ∈ tables_1_3) : w ∈ lw_tbl := m_tin (List.mem_append_right _ (List.mem_append_right _ (List.mem_append_left _ h)))
theorem tin4 {w : Cond} (h : w ∈ tables_1_4) : w ∈ lw_tbl := m_tin (List.mem_append_right _ (List.mem_append_right _ (List.mem_append_right _ (List.mem_append_left _ h))))
theorem tin5 {w : Cond} (h : w ∈ tables_1_5) : w ∈ lw_tbl := m_tin (List.mem_append_right _ (List.mem_append_right _ (List.mem_append_right _ (List.mem_append_right _ (List.mem_append_left _ h)))))
theorem tin6 {w : Cond} (h : w ∈ tables_1_6) : w ∈ lw_tbl := m_tin (List.mem_append_right _ (List.mem_append_right _ (List.mem_append_right _ (List.mem_append_right _ (List.mem_append_right _ (List.mem_append_left _ h))))))
theorem tin7 {w : Cond} (h : w ∈ tables_1_7) : w ∈ lw_tbl := m_tin (List.mem_append_right _ (List.mem_append_right _ (List.mem_append_right _ (List.mem_append_right _ (List.mem_append_right _ (List.mem_append_right _ (List.mem_append_left _ h)))))))
theorem tin8 {w : Cond} (h : w ∈ tables_1_8) : w ∈ lw_tbl := m_tin (List.mem_append_right _ (List.mem_append_right _ (List.mem_append_right _ (List.mem_append_right _ (List.mem_append_right _ (List.mem_append_right _ (List.mem_append_right _ (List.mem_append_left _ h))))))))
theorem tin9 {w : Cond} (h : w ∈ tables_1_9) : w ∈ lw_tbl := m_tin (List.mem_append_right _ (List.mem_append_right _ (List.mem_append_right _ (List.mem_append_right _ (List.mem_append_right _ (List.mem_append_right _ (List.mem_append_right _ (List.mem_append_right _ (h)))))))))
set_option maxRecDepth 100000 in
theorem q12 {s : State} {a : Array Value} (h : mT s) : (Jvm.Cond.initialized "java/lang/System").before a s = true := h _ (tin1 (List.mem_of_getElem? (l := tables_1_1) (i := 12) rfl)) rfl a
set_option maxRecDepth 100000 in
theorem q50 {s : State} {a : Array Value} (h : mT s) : (Jvm.Cond.fieldLink "ShareVault$Keys" (21 : Nat) "ShareVault$Keys" "holderCount" "I").before a s = true := h _ (tin1 (List.mem_of_getElem? (l := tables_1_1) (i := 50) rfl)) rfl a
set_option maxRecDepth 100000 in
theorem q53 {s : State} {a : Array Value} (h : mT s) : (Jvm.Cond.fieldLink "ShareVault$Keys" (9 : Nat) "ShareVault$Keys" "shares" "[I").before a s = true := h _ (tin1 (List.mem_of_getElem? (l := tables_1_1) (i := 53) rfl)) rfl a
set_option maxRecDepth 100000 in
theorem q57 {s : State} {a : Array Value} (h : mT s) : (Jvm.Cond.fieldLink "ShareVault$Keys" (31 : Nat) "ShareVault$Keys" "sealed" "Z").before a s = true := h _ (tin1 (List.mem_of_getElem? (l := tables_1_1) (i := 57) rfl)) rfl a
set_option maxRecDepth 100000 in
theorem q60 {s : State} {a : Array Value} (h : mT s) : (Jvm.Cond.fieldLink "ShareVault$Keys" (35 : Nat) "ShareVault$Keys" "threshold" "I").before a s = true := h _ (tin1 (List.mem_of_getElem? (l := tables_1_1) (i := 60) rfl)) rfl a
set_option maxRecDepth 100000 in
theorem q64 {s : State} {a : Array Value} (h : mT s) : (Jvm.Cond.fieldLink "ShareVault$Keys" (15 : Nat) "ShareVault$Keys" "curve" "[I").before a s = true := h _ (tin1 (List.mem_of_getElem? (l := tables_1_1) (i := 64) rfl)) rfl a
set_option maxRecDepth 100000 in
theorem q65 {s : State} {a : Array Value} (h : mT s) : (Jvm.Cond.fieldLink "ShareVault$Keys" (38 : Nat) "ShareVault$Keys" "presentedCount" "I").before a s = true := h _ (tin1 (List.mem_of_getElem? (l := tables_1_1) (i := 65) rfl)) rfl a
set_option maxRecDepth 100000 in
theorem q69 {s : State} {a : Array Value} (h : mT s) : (Jvm.Cond.fieldLink "ShareVault$Keys" (18 : Nat) "ShareVault$Keys" "presented" "[I").before a s = true := h _ (tin1 (List.mem_of_getElem? (l := tables_1_1) (i := 69) rfl)) rfl a
set_option maxRecDepth 100000 in
theorem q94 {s : State} {a : Array Value} (h : mT s) : (Jvm.Cond.fieldLink "ShareVault$Door" (9 : Nat) "ShareVault$Door" "open" "Z").before a s = true := h _ (tin1 (List.mem_of_getElem? (l := tables_1_1) (i := 94) rfl)) rfl a
set_option maxRecDepth 100000 in
theorem q97 {s : State} {a : Array Value} (h : mT s) : (Jvm.Cond.fieldLink "ShareVault$Door" (15 : Nat) "ShareVault$Door" "lockedHours" "I").before a s = true := h _ (tin1 (List.mem_of_getElem? (l := tables_1_1) (i := 97) rfl)) rfl a
set_option maxRecDepth 100000 in
theorem q100 {s : State} {a : Array Value} (h : mT s) : (Jvm.Cond.fieldLink "ShareVault$Door" (19 : Nat) "ShareVault$Door" "failedAttempts" "I").before a s = true := h _ (tin1 (List.mem_of_getElem? (l := tables_1_1) (i := 100) rfl)) rfl a
set_option maxRecDepth 100000 in
theorem q103 {s : State} {a : Array Value} (h : mT s) : (Jvm.Cond.fieldLink "ShareVault$Door" (22 : Nat) "ShareVault$Door" "openingCount" "I").before a s = true := h _ (tin1 (List.mem_of_getElem? (l := tables_1_1) (i := 103) rfl)) rfl a
set_option maxRecDepth 100000 in
theorem q399 {s : State} {a : Array Value} (h : mT s) : (Jvm.Cond.static ({ cls := "java/lang/System", name := "arraycopy", desc := "(Ljava/lang/Object;ILjava/lang/Object;II)V" } : Jvm.MethodName)).before a s = true := h _ (tin2 (List.mem_of_getElem? (l := tables_1_2) (i := 159) rfl)) rfl a
set_option maxRecDepth 100000 in
theorem q400 {s : State} {a : Array Value} (h : mT s) : (Jvm.Cond.native ({ cls := "java/lang/System", name := "arraycopy", desc := "(Ljava/lang/Object;ILjava/lang/Object;II)V" } : Jvm.MethodName)).before a s = true := h _ (tin2 (List.mem_of_getElem? (l := tables_1_2) (i := 160) rfl)) rfl a
set_option maxRecDepth 100000 in
theorem q432 {s : State} {a : Array Value} (h : mT s) : (Jvm.Cond.instanceMethod ({ cls := "ShareVault$Keys", name := "toldAt", desc := "(I)I" } : Jvm.MethodName)).before a s = true := h _ (tin2 (List.mem_of_getElem? (l := tables_1_2) (i := 192) rfl)) rfl a
set_option maxRecDepth 100000 in
theorem q433 {s : State} {a : Array Value} (h : mT s) : (Jvm.Cond.selects "ShareVault$Keys" ({ cls := "ShareVault$Keys", name := "toldAt", desc := "(I)I" } : Jvm.MethodName) ({ cls := "ShareVault$Keys", name := "toldAt", desc := "(I)I" } : Jvm.MethodName)).before a s = true := h _ (tin2 (List.mem_of_getElem? (l := tables_1_2) (i := 193) rfl)) rfl a
set_option maxRecDepth 100000 in
theorem q435 {s : State} {a : Array Value} (h : mT s) : (Jvm.Cond.methodLink "ShareVault$Keys" (52 : Nat) ({ cls := "ShareVault$Keys", name := "valueThrough", desc := "([II)I" } : Jvm.MethodName)).before a s = true := h _ (tin2 (List.mem_of_getElem? (l := tables_1_2) (i := 195) rfl)) rfl a
set_option maxRecDepth 100000 in
theorem q437 {s : State} {a : Array Value} (h : mT s) : (Jvm.Cond.instanceMethod ({ cls := "ShareVault$Keys", name := "valueThrough", desc := "([II)I" } : Jvm.MethodName)).before a s = true := h _ (tin2 (List.mem_of_getElem? (l := tables_1_2) (i := 197) rfl)) rfl a
set_option maxRecDepth 100000 in
theorem q439 {s : State} {a : Array Value} (h : mT s) : (Jvm.Cond.methodLink "ShareVault$Keys" (62 : Nat) ({ cls := "ShareVault$Keys", name := "quotientsOf", desc := "([III)I" } : Jvm.MethodName)).before a s = true := h _ (tin2 (List.mem_of_getElem? (l := tables_1_2) (i := 199) rfl)) rfl a
set_option maxRecDepth 100000 in
theorem q441 {s : State} {a : Array Value} (h : mT s) : (Jvm.Cond.instanceMethod ({ cls := "ShareVault$Keys", name := "quotientsOf", desc := "([III)I" } : Jvm.MethodName)).before a s = true := h _ (tin2 (List.mem_of_getElem? (l := tables_1_2) (i := 201) rfl)) rfl a
set_option maxRecDepth 100000 in
theorem q443 {s : State} {a : Array Value} (h : mT s) : (Jvm.Cond.fieldLinkNest "ShareVault$Keys" (66 : Nat) "ShareVault" "INVERSES" "[I" "ShareVault").before a s = true := h _ (tin2 (List.mem_of_getElem? (l := tables_1_2) (i := 203) rfl)) rfl a
set_option maxRecDepth 100000 in
theorem q458 {s : State} {a : Array Value} (h : mT s) : (Jvm.Cond.static ({ cls := "ShareVault$Keys", name := "positionOf", desc := "(I)I" } : Jvm.MethodName)).before a s = true := h _ (tin2 (List.mem_of_getElem? (l := tables_1_2) (i := 218) rfl)) rfl a
set_option maxRecDepth 100000 in
theorem q488 {s : State} {a : Array Value} (h : mT s) : (Jvm.Cond.static ({ cls := "ShareVault$Keys", name := "valueOn", desc := "([II)I" } : Jvm.MethodName)).before a s = true := h _ (tin3 (List.mem_of_getElem? (l := tables_1_3) (i := 8) rfl)) rfl a
set_option maxRecDepth 100000 in
theorem q498 {s : State} {a : Array Value} (h : mT s) : (Jvm.Cond.instanceMethod ({ cls := "ShareVault$Keys", name := "isOneCurve", desc := "([II)Z" } : Jvm.MethodName)).before a s = true := h _ (tin3 (List.mem_of_getElem? (l := tables_1_3) (i := 18) rfl)) rfl a
set_option maxRecDepth 100000 in
theorem q499 {s : State} {a : Array Value} (h : mT s) : (Jvm.Cond.selects "ShareVault$Keys" ({ cls := "ShareVault$Keys", name := "isOneCurve", desc := "([II)Z" } : Jvm.MethodName) ({ cls := "ShareVault$Keys", name := "isOneCurve", desc := "([II)Z" } : Jvm.MethodName)).before a s = true := h _ (tin3 (List.mem_of_getElem? (l := tables_1_3) (i := 19) rfl)) rfl a
set_option maxRecDepth 100000 in
theorem q501 {s : State} {a : Array Value} (h : mT s) : (Jvm.Cond.methodLink "ShareVault$Keys" (41 : Nat) ({ cls := "ShareVault$Keys", name := "positionOf", desc := "(I)I" } : Jvm.MethodName)).before a s = true := h _ (tin3 (List.mem_of_getElem? (l := tables_1_3) (i := 21) rfl)) rfl a
set_option maxRecDepth 100000 in
theorem q548 {s : State} {a : Array Value} (h : mT s) : (Jvm.Cond.methodLink "ShareVault$Keys" (25 : Nat) ({ cls := "java/lang/System", name := "arraycopy", desc := "(Ljava/lang/Object;ILjava/lang/Object;II)V" } : Jvm.MethodName)).before a s = true := h _ (tin3 (List.mem_of_getElem? (l := tables_1_3) (i := 68) rfl)) rfl a
set_option maxRecDepth 100000 in
theorem q580 {s : State} {a : Array Value} (h : mT s) : (Jvm.Cond.methodLink "ShareVault$Keys" (49 : Nat) ({ cls := "ShareVault$Keys", name := "correctShare", desc := "(I)I" } : Jvm.MethodName)).before a s = true := h _ (tin3 (List.mem_of_getElem? (l := tables_1_3) (i := 100) rfl)) rfl a
set_option maxRecDepth 100000 in
theorem q581 {s : State} {a : Array Value} (h : mT s) : (Jvm.Cond.instanceMethod ({ cls := "ShareVault$Keys", name := "correctShare", desc := "(I)I" } : Jvm.MethodName)).before a s = true := h _ (tin3 (List.mem_of_getElem? (l := tables_1_3) (i := 101) rfl)) rfl a
set_option maxRecDepth 100000 in
theorem q582 {s : State} {a : Array Value} (h : mT s) : (Jvm.Cond.selects "ShareVault$Keys" ({ cls := "ShareVault$Keys", name := "correctShare", desc := "(I)I" } : Jvm.MethodName) ({ cls := "ShareVault$Keys", name := "correctShare", desc := "(I)I" } : Jvm.MethodName)).before a s = true := h _ (tin3 (List.mem_of_getElem? (l := tables_1_3) (i := 102) rfl)) rfl a
set_option maxRecDepth 100000 in
theorem q584 {s : State} {a : Array Value} (h : mT s) : (Jvm.Cond.methodLink "ShareVault$Keys" (45 : Nat) ({ cls := "ShareVault$Keys", name := "valueOn", desc := "([II)I" } : Jvm.MethodName)).before a s = true := h _ (tin3 (List.mem_of_getElem? (l := tables_1_3) (i := 104) rfl)) rfl a
set_option maxRecDepth 100000 in
theorem q820 {s : State} {a : Array Value} (h : mT s) : (Jvm.Cond.methodLink "ShareVault$Keys" (55 : Nat) ({ cls := "ShareVault$Keys", name := "isOneCurve", desc := "([II)Z" } : Jvm.MethodName)).before a s = true := h _ (tin4 (List.mem_of_getElem? (l := tables_1_4) (i := 100) rfl)) rfl a
set_option maxRecDepth 100000 in
theorem q821 {s : State} {a : Array Value} (h : mT s) : (Jvm.Cond.methodLink "ShareVault$Keys" (59 : Nat) ({ cls := "ShareVault$Keys", name := "toldAt", desc := "(I)I" } : Jvm.MethodName)).before a s = true := h _ (tin4 (List.mem_of_getElem? (l := tables_1_4) (i := 101) rfl)) rfl a
set_option maxRecDepth 100000 in
theorem kc_X3_copyFrom : Cond.code yX3_copyFrom cX3_copyFrom 2 (none) ∈ lw_tbl := tin3 (List.mem_of_getElem? (l := tables_1_3) (i := 72) rfl)
set_option maxRecDepth 100000 in
theorem ki_X3_copyFrom : Cond.initialized yX3_copyFrom.cls ∈ lw_tbl := tin1 (List.mem_of_getElem? (l := tables_1_1) (i := 4) rfl)
set_option maxRecDepth 100000 in
theorem kc_X3_countFailure : Cond.code yX3_countFailure cX3_countFailure 1 (none) ∈ lw_tbl := tin4 (List.mem_of_getElem? (l := tables_1_4) (i := 109) rfl)
set_option maxRecDepth 100000 in
theorem ki_X3_countFailure : Cond.initialized yX3_countFailure.cls ∈ lw_tbl := tin1 (List.mem_of_getElem? (l := tables_1_1) (i := 4) rfl)
set_option maxRecDepth 100000 in
theorem kc_X3_passOneHour : Cond.code yX3_passOneHour cX3_passOneHour 1 (none) ∈ lw_tbl := tin4 (List.mem_of_getElem? (l := tables_1_4) (i := 202) rfl)
set_option maxRecDepth 100000 in
theorem ki_X3_passOneHour : Cond.initialized yX3_passOneHour.cls ∈ lw_tbl := tin1 (List.mem_of_getElem? (l := tables_1_1) (i := 4) rfl)
set_option maxRecDepth 100000 in
theorem kc_X3_shutAnew : Cond.code yX3_shutAnew cX3_shutAnew 1 (none) ∈ lw_tbl := tin4 (List.mem_of_getElem? (l := tables_1_4) (i := 12) rfl)
set_option maxRecDepth 100000 in
theorem ki_X3_shutAnew : Cond.initialized yX3_shutAnew.cls ∈ lw_tbl := tin1 (List.mem_of_getElem? (l := tables_1_1) (i := 4) rfl)
set_option maxRecDepth 100000 in
theorem kc_X3_swingOpen : Cond.code yX3_swingOpen cX3_swingOpen 1 (none) ∈ lw_tbl := tin4 (List.mem_of_getElem? (l := tables_1_4) (i := 105) rfl)
set_option maxRecDepth 100000 in
theorem ki_X3_swingOpen : Cond.initialized yX3_swingOpen.cls ∈ lw_tbl := tin1 (List.mem_of_getElem? (l := tables_1_1) (i := 4) rfl)
set_option maxRecDepth 100000 in
theorem kc_X6_allAgree : Cond.code yX6_allAgree cX6_allAgree 1 (some .boolean) ∈ lw_tbl := tin5 (List.mem_of_getElem? (l := tables_1_5) (i := 65) rfl)
set_option maxRecDepth 100000 in
theorem ki_X6_allAgree : Cond.initialized yX6_allAgree.cls ∈ lw_tbl := tin1 (List.mem_of_getElem? (l := tables_1_1) (i := 3) rfl)
set_option maxRecDepth 100000 in
theorem kc_X6_areEnough : Cond.code yX6_areEnough cX6_areEnough 1 (some .boolean) ∈ lw_tbl := tin2 (List.mem_of_getElem? (l := tables_1_2) (i := 190) rfl)
set_option maxRecDepth 100000 in
theorem ki_X6_areEnough : Cond.initialized yX6_areEnough.cls ∈ lw_tbl := tin1 (List.mem_of_getElem? (l := tables_1_1) (i := 3) rfl)
set_option maxRecDepth 100000 in
theorem kc_X6_copyFrom : Cond.code yX6_copyFrom cX6_copyFrom 2 (none) ∈ lw_tbl := tin3 (List.mem_of_getElem? (l := tables_1_3) (i := 67) rfl)
set_option maxRecDepth 100000 in
theorem ki_X6_copyFrom : Cond.initialized yX6_copyFrom.cls ∈ lw_tbl := tin1 (List.mem_of_getElem? (l := tables_1_1) (i := 3) rfl)
set_option maxRecDepth 100000 in
theorem kc_X6_correctShare : Cond.code yX6_correctShare cX6_correctShare 2 (some .int) ∈ lw_tbl := tin3 (List.mem_of_getElem? (l := tables_1_3) (i := 103) rfl)
set_option maxRecDepth 100000 in
theorem ki_X6_correctShare : Cond.initialized yX6_correctShare.cls ∈ lw_tbl := tin1 (List.mem_of_getElem? (l := tables_1_1) (i := 3) rfl)
set_option maxRecDepth 100000 in
theorem kc_X6_hasHolder : Cond.code yX6_hasHolder cX6_hasHolder 2 (some .boolean) ∈ lw_tbl := tin4 (List.mem_of_getElem? (l := tables_1_4) (i := 48) rfl)
set_option maxRecDepth 100000 in
theorem ki_X6_hasHolder : Cond.initialized yX6_hasHolder.cls ∈ lw_tbl := tin1 (List.mem_of_getElem? (l := tables_1_1) (i := 3) rfl)
set_option maxRecDepth 100000 in
theorem kc_X6_hide : Cond.code yX6_hide cX6_hide 3 (some .int) ∈ lw_tbl := tin4 (List.mem_of_getElem? (l := tables_1_4) (i := 78) rfl)
set_option maxRecDepth 100000 in
theorem ki_X6_hide : Cond.initialized yX6_hide.cls ∈ lw_tbl := tin1 (List.mem_of_getElem? (l := tables_1_1) (i := 3) rfl)
set_option maxRecDepth 100000 in
theorem kc_X6_isOneCurve : Cond.code yX6_isOneCurve cX6_isOneCurve 5 (some .boolean) ∈ lw_tbl := tin3 (List.mem_of_getElem? (l := tables_1_3) (i := 20) rfl)
set_option maxRecDepth 100000 in
theorem ki_X6_isOneCurve : Cond.initialized yX6_isOneCurve.cls ∈ lw_tbl := tin1 (List.mem_of_getElem? (l := tables_1_1) (i := 3) rfl)
set_option maxRecDepth 100000 in
theorem kc_X6_isResidue : Cond.code yX6_isResidue cX6_isResidue 1 (some .boolean) ∈ lw_tbl := tin4 (List.mem_of_getElem? (l := tables_1_4) (i := 4) rfl)
set_option maxRecDepth 100000 in
theorem ki_X6_isResidue : Cond.initialized yX6_isResidue.cls ∈ lw_tbl := tin1 (List.mem_of_getElem? (l := tables_1_1) (i := 3) rfl)
set_option maxRecDepth 100000 in
theorem kc_X6_join : Cond.code yX6_join cX6_join 2 (some .int) ∈ lw_tbl := tin3 (List.mem_of_getElem? (l := tables_1_3) (i := 99) rfl)
set_option maxRecDepth 100000 in
theorem ki_X6_join : Cond.initialized yX6_join.cls ∈ lw_tbl := tin1 (List.mem_of_getElem? (l := tables_1_1) (i := 3) rfl)
set_option maxRecDepth 100000 in
theorem kc_X6_placeOf : Cond.code yX6_placeOf cX6_placeOf 3 (some .int) ∈ lw_tbl := tin3 (List.mem_of_getElem? (l := tables_1_3) (i := 204) rfl)
set_option maxRecDepth 100000 in
theorem ki_X6_placeOf : Cond.initialized yX6_placeOf.cls ∈ lw_tbl := tin1 (List.mem_of_getElem? (l := tables_1_1) (i := 3) rfl)
set_option maxRecDepth 100000 in
theorem kc_X6_positionOf : Cond.code yX6_positionOf cX6_positionOf 1 (some .int) ∈ lw_tbl := tin2 (List.mem_of_getElem? (l := tables_1_2) (i := 219) rfl)
set_option maxRecDepth 100000 in
theorem ki_X6_positionOf : Cond.initialized yX6_positionOf.cls ∈ lw_tbl := tin1 (List.mem_of_getElem? (l := tables_1_1) (i := 3) rfl)
set_option maxRecDepth 100000 in
theorem kc_X6_quotientsOf : Cond.code yX6_quotientsOf cX6_quotientsOf 8 (some .int) ∈ lw_tbl := tin2 (List.mem_of_getElem? (l := tables_1_2) (i := 202) rfl)
set_option maxRecDepth 100000 in
theorem ki_X6_quotientsOf : Cond.initialized yX6_quotientsOf.cls ∈ lw_tbl := tin1 (List.mem_of_getElem? (l := tables_1_1) (i := 3) rfl)
set_option maxRecDepth 100000 in
theorem kc_X6_sealWith : Cond.code yX6_sealWith cX6_sealWith 6 (none) ∈ lw_tbl := tin4 (List.mem_of_getElem? (l := tables_1_4) (i := 8) rfl)
set_option maxRecDepth 100000 in
theorem ki_X6_sealWith : Cond.initialized yX6_sealWith.cls ∈ lw_tbl := tin1 (List.mem_of_getElem? (l := tables_1_1) (i := 3) rfl)
set_option maxRecDepth 100000 in
theorem kc_X6_show : Cond.code yX6_show cX6_show 2 (some .int) ∈ lw_tbl := tin4 (List.mem_of_getElem? (l := tables_1_4) (i := 63) rfl)
set_option maxRecDepth 100000 in
theorem ki_X6_show : Cond.initialized yX6_show.cls ∈ lw_tbl := tin1 (List.mem_of_getElem? (l := tables_1_1) (i := 3) rfl)
set_option maxRecDepth 100000 in
theorem kc_X6_tellTheSecret : Cond.code yX6_tellTheSecret cX6_tellTheSecret 1 (some .boolean) ∈ lw_tbl := tin4 (List.mem_of_getElem? (l := tables_1_4) (i := 99) rfl)
set_option maxRecDepth 100000 in
theorem ki_X6_tellTheSecret : Cond.initialized yX6_tellTheSecret.cls ∈ lw_tbl := tin1 (List.mem_of_getElem? (l := tables_1_1) (i := 3) rfl)
set_option maxRecDepth 100000 in
theorem kc_X6_toldAt : Cond.code yX6_toldAt cX6_toldAt 2 (some .int) ∈ lw_tbl := tin2 (List.mem_of_getElem? (l := tables_1_2) (i := 194) rfl)
set_option maxRecDepth 100000 in
theorem ki_X6_toldAt : Cond.initialized yX6_toldAt.cls ∈ lw_tbl := tin1 (List.mem_of_getElem? (l := tables_1_1) (i := 3) rfl)
set_option maxRecDepth 100000 in
theorem kc_X6_valueOn : Cond.code yX6_valueOn cX6_valueOn 4 (some .int) ∈ lw_tbl := tin3 (List.mem_of_getElem? (l := tables_1_3) (i := 9) rfl)
set_option maxRecDepth 100000 in
theorem ki_X6_valueOn : Cond.initialized yX6_valueOn.cls ∈ lw_tbl := tin1 (List.mem_of_getElem? (l := tables_1_1) (i := 3) rfl)
set_option maxRecDepth 100000 in
theorem kc_X6_valueThrough : Cond.code yX6_valueThrough cX6_valueThrough 5 (some .int) ∈ lw_tbl := tin2 (List.mem_of_getElem? (l := tables_1_2) (i := 198) rfl)
set_option maxRecDepth 100000 in
theorem ki_X6_valueThrough : Cond.initialized yX6_valueThrough.cls ∈ lw_tbl := tin1 (List.mem_of_getElem? (l := tables_1_1) (i := 3) rfl)
set_option maxRecDepth 100000 in
theorem sel_X6_quotientsOf {s : State} {a : Array Value} (h : mT s) : (Cond.selects "ShareVault$Keys" yX6_quotientsOf yX6_quotientsOf).before a s = true := h _ (List.mem_append_left _ (List.mem_of_getElem? (l := k2_sels lw_privs) (i := 5) rfl)) rfl a
set_option maxRecDepth 100000 in
theorem sel_X6_valueThrough {s : State} {a : Array Value} (h : mT s) : (Cond.selects "ShareVault$Keys" yX6_valueThrough yX6_valueThrough).before a s = true := h _ (List.mem_append_left _ (List.mem_of_getElem? (l := k2_sels lw_privs) (i := 4) rfl)) rfl a
