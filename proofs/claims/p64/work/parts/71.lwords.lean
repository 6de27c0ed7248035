set_option maxRecDepth 100000 in
theorem q696 {s : State} {a : Array Value} (h : mT s) : (Jvm.Cond.methodLink "ShareVaultLaw" (249 : Nat) ({ cls := "ShareVaultLaw", name := "areCorrect", desc := "(LShareVault;)Z" } : Jvm.MethodName)).before a s = true := h _ (tin3 (List.mem_of_getElem? (l := tables_1_3) (i := 216) rfl)) rfl a
set_option maxRecDepth 100000 in
theorem q697 {s : State} {a : Array Value} (h : mT s) : (Jvm.Cond.static ({ cls := "ShareVaultLaw", name := "areCorrect", desc := "(LShareVault;)Z" } : Jvm.MethodName)).before a s = true := h _ (tin3 (List.mem_of_getElem? (l := tables_1_3) (i := 217) rfl)) rfl a
set_option maxRecDepth 100000 in
theorem q713 {s : State} {a : Array Value} (h : mT s) : (Jvm.Cond.methodLink "ShareVaultLaw" (245 : Nat) ({ cls := "ShareVaultLaw", name := "does", desc := "([IIILShareVault;II)I" } : Jvm.MethodName)).before a s = true := h _ (tin3 (List.mem_of_getElem? (l := tables_1_3) (i := 233) rfl)) rfl a
set_option maxRecDepth 100000 in
theorem q714 {s : State} {a : Array Value} (h : mT s) : (Jvm.Cond.static ({ cls := "ShareVaultLaw", name := "does", desc := "([IIILShareVault;II)I" } : Jvm.MethodName)).before a s = true := h _ (tin3 (List.mem_of_getElem? (l := tables_1_3) (i := 234) rfl)) rfl a
set_option maxRecDepth 100000 in
theorem q716 {s : State} {a : Array Value} (h : mT s) : (Jvm.Cond.methodLink "ShareVaultLaw" (286 : Nat) ({ cls := "ShareVaultLaw", name := "addHolder", desc := "(LShareVault;)I" } : Jvm.MethodName)).before a s = true := h _ (tin3 (List.mem_of_getElem? (l := tables_1_3) (i := 236) rfl)) rfl a
set_option maxRecDepth 100000 in
theorem q717 {s : State} {a : Array Value} (h : mT s) : (Jvm.Cond.static ({ cls := "ShareVaultLaw", name := "addHolder", desc := "(LShareVault;)I" } : Jvm.MethodName)).before a s = true := h _ (tin3 (List.mem_of_getElem? (l := tables_1_3) (i := 237) rfl)) rfl a
set_option maxRecDepth 100000 in
theorem q794 {s : State} {a : Array Value} (h : mT s) : (Jvm.Cond.methodLink "ShareVaultLaw" (288 : Nat) ({ cls := "ShareVaultLaw", name := "seal", desc := "(LShareVault;IIII)I" } : Jvm.MethodName)).before a s = true := h _ (tin4 (List.mem_of_getElem? (l := tables_1_4) (i := 74) rfl)) rfl a
set_option maxRecDepth 100000 in
theorem q795 {s : State} {a : Array Value} (h : mT s) : (Jvm.Cond.static ({ cls := "ShareVaultLaw", name := "seal", desc := "(LShareVault;IIII)I" } : Jvm.MethodName)).before a s = true := h _ (tin4 (List.mem_of_getElem? (l := tables_1_4) (i := 75) rfl)) rfl a
set_option maxRecDepth 100000 in
theorem q816 {s : State} {a : Array Value} (h : mT s) : (Jvm.Cond.methodLink "ShareVaultLaw" (291 : Nat) ({ cls := "ShareVaultLaw", name := "setShare", desc := "(LShareVault;II)I" } : Jvm.MethodName)).before a s = true := h _ (tin4 (List.mem_of_getElem? (l := tables_1_4) (i := 96) rfl)) rfl a
set_option maxRecDepth 100000 in
theorem q817 {s : State} {a : Array Value} (h : mT s) : (Jvm.Cond.static ({ cls := "ShareVaultLaw", name := "setShare", desc := "(LShareVault;II)I" } : Jvm.MethodName)).before a s = true := h _ (tin4 (List.mem_of_getElem? (l := tables_1_4) (i := 97) rfl)) rfl a
set_option maxRecDepth 100000 in
theorem q828 {s : State} {a : Array Value} (h : mT s) : (Jvm.Cond.methodLink "ShareVaultLaw" (294 : Nat) ({ cls := "ShareVaultLaw", name := "present", desc := "(LShareVault;I)I" } : Jvm.MethodName)).before a s = true := h _ (tin4 (List.mem_of_getElem? (l := tables_1_4) (i := 108) rfl)) rfl a
set_option maxRecDepth 100000 in
theorem q829 {s : State} {a : Array Value} (h : mT s) : (Jvm.Cond.static ({ cls := "ShareVaultLaw", name := "present", desc := "(LShareVault;I)I" } : Jvm.MethodName)).before a s = true := h _ (tin4 (List.mem_of_getElem? (l := tables_1_4) (i := 109) rfl)) rfl a
set_option maxRecDepth 100000 in
theorem q843 {s : State} {a : Array Value} (h : mT s) : (Jvm.Cond.methodLink "ShareVaultLaw" (296 : Nat) ({ cls := "ShareVaultLaw", name := "takeBack", desc := "(LShareVault;I)I" } : Jvm.MethodName)).before a s = true := h _ (tin4 (List.mem_of_getElem? (l := tables_1_4) (i := 123) rfl)) rfl a
set_option maxRecDepth 100000 in
theorem q844 {s : State} {a : Array Value} (h : mT s) : (Jvm.Cond.static ({ cls := "ShareVaultLaw", name := "takeBack", desc := "(LShareVault;I)I" } : Jvm.MethodName)).before a s = true := h _ (tin4 (List.mem_of_getElem? (l := tables_1_4) (i := 124) rfl)) rfl a
set_option maxRecDepth 100000 in
theorem q858 {s : State} {a : Array Value} (h : mT s) : (Jvm.Cond.methodLink "ShareVaultLaw" (298 : Nat) ({ cls := "ShareVaultLaw", name := "openVault", desc := "(LShareVault;)I" } : Jvm.MethodName)).before a s = true := h _ (tin4 (List.mem_of_getElem? (l := tables_1_4) (i := 138) rfl)) rfl a
set_option maxRecDepth 100000 in
theorem q859 {s : State} {a : Array Value} (h : mT s) : (Jvm.Cond.static ({ cls := "ShareVaultLaw", name := "openVault", desc := "(LShareVault;)I" } : Jvm.MethodName)).before a s = true := h _ (tin4 (List.mem_of_getElem? (l := tables_1_4) (i := 139) rfl)) rfl a
set_option maxRecDepth 100000 in
theorem q896 {s : State} {a : Array Value} (h : mT s) : (Jvm.Cond.methodLink "ShareVaultLaw" (300 : Nat) ({ cls := "ShareVaultLaw", name := "closeVault", desc := "(LShareVault;)I" } : Jvm.MethodName)).before a s = true := h _ (tin4 (List.mem_of_getElem? (l := tables_1_4) (i := 176) rfl)) rfl a
set_option maxRecDepth 100000 in
theorem q897 {s : State} {a : Array Value} (h : mT s) : (Jvm.Cond.static ({ cls := "ShareVaultLaw", name := "closeVault", desc := "(LShareVault;)I" } : Jvm.MethodName)).before a s = true := h _ (tin4 (List.mem_of_getElem? (l := tables_1_4) (i := 177) rfl)) rfl a
set_option maxRecDepth 100000 in
theorem q907 {s : State} {a : Array Value} (h : mT s) : (Jvm.Cond.methodLink "ShareVaultLaw" (302 : Nat) ({ cls := "ShareVaultLaw", name := "addGuard", desc := "(LShareVault;IZI)I" } : Jvm.MethodName)).before a s = true := h _ (tin4 (List.mem_of_getElem? (l := tables_1_4) (i := 187) rfl)) rfl a
set_option maxRecDepth 100000 in
theorem q908 {s : State} {a : Array Value} (h : mT s) : (Jvm.Cond.static ({ cls := "ShareVaultLaw", name := "addGuard", desc := "(LShareVault;IZI)I" } : Jvm.MethodName)).before a s = true := h _ (tin4 (List.mem_of_getElem? (l := tables_1_4) (i := 188) rfl)) rfl a
set_option maxRecDepth 100000 in
theorem q923 {s : State} {a : Array Value} (h : mT s) : (Jvm.Cond.methodLink "ShareVaultLaw" (305 : Nat) ({ cls := "ShareVaultLaw", name := "turnGuard", desc := "(LShareVault;I)I" } : Jvm.MethodName)).before a s = true := h _ (tin4 (List.mem_of_getElem? (l := tables_1_4) (i := 203) rfl)) rfl a
set_option maxRecDepth 100000 in
theorem q924 {s : State} {a : Array Value} (h : mT s) : (Jvm.Cond.static ({ cls := "ShareVaultLaw", name := "turnGuard", desc := "(LShareVault;I)I" } : Jvm.MethodName)).before a s = true := h _ (tin4 (List.mem_of_getElem? (l := tables_1_4) (i := 204) rfl)) rfl a
set_option maxRecDepth 100000 in
theorem q935 {s : State} {a : Array Value} (h : mT s) : (Jvm.Cond.methodLink "ShareVaultLaw" (307 : Nat) ({ cls := "ShareVaultLaw", name := "hum", desc := "(LShareVault;II)I" } : Jvm.MethodName)).before a s = true := h _ (tin4 (List.mem_of_getElem? (l := tables_1_4) (i := 215) rfl)) rfl a
set_option maxRecDepth 100000 in
theorem q936 {s : State} {a : Array Value} (h : mT s) : (Jvm.Cond.static ({ cls := "ShareVaultLaw", name := "hum", desc := "(LShareVault;II)I" } : Jvm.MethodName)).before a s = true := h _ (tin4 (List.mem_of_getElem? (l := tables_1_4) (i := 216) rfl)) rfl a
set_option maxRecDepth 100000 in
theorem q947 {s : State} {a : Array Value} (h : mT s) : (Jvm.Cond.methodLink "ShareVaultLaw" (309 : Nat) ({ cls := "ShareVaultLaw", name := "passHours", desc := "(LShareVault;I)I" } : Jvm.MethodName)).before a s = true := h _ (tin4 (List.mem_of_getElem? (l := tables_1_4) (i := 227) rfl)) rfl a
set_option maxRecDepth 100000 in
theorem q948 {s : State} {a : Array Value} (h : mT s) : (Jvm.Cond.static ({ cls := "ShareVaultLaw", name := "passHours", desc := "(LShareVault;I)I" } : Jvm.MethodName)).before a s = true := h _ (tin4 (List.mem_of_getElem? (l := tables_1_4) (i := 228) rfl)) rfl a
set_option maxRecDepth 100000 in
theorem q1393 {s : State} {a : Array Value} (h : mT s) : (Jvm.Cond.methodLink "ShareVaultLaw" (271 : Nat) ({ cls := "ShareVaultLaw", name := "isWhole", desc := "(LShareVault;[IIIZ)Z" } : Jvm.MethodName)).before a s = true := h _ (tin6 (List.mem_of_getElem? (l := tables_1_6) (i := 193) rfl)) rfl a
set_option maxRecDepth 100000 in
theorem q1394 {s : State} {a : Array Value} (h : mT s) : (Jvm.Cond.static ({ cls := "ShareVaultLaw", name := "isWhole", desc := "(LShareVault;[IIIZ)Z" } : Jvm.MethodName)).before a s = true := h _ (tin6 (List.mem_of_getElem? (l := tables_1_6) (i := 194) rfl)) rfl a
set_option maxRecDepth 100000 in
theorem q1577 {s : State} {a : Array Value} (h : mT s) : (Jvm.Cond.methodLink "ShareVaultLaw" (275 : Nat) ({ cls := "ShareVaultLaw", name := "isKept", desc := "(LShareVault;[JI)Z" } : Jvm.MethodName)).before a s = true := h _ (tin7 (List.mem_of_getElem? (l := tables_1_7) (i := 137) rfl)) rfl a
set_option maxRecDepth 100000 in
theorem q1578 {s : State} {a : Array Value} (h : mT s) : (Jvm.Cond.static ({ cls := "ShareVaultLaw", name := "isKept", desc := "(LShareVault;[JI)Z" } : Jvm.MethodName)).before a s = true := h _ (tin7 (List.mem_of_getElem? (l := tables_1_7) (i := 138) rfl)) rfl a
set_option maxRecDepth 100000 in
theorem q1609 {s : State} {a : Array Value} (h : mT s) : (Jvm.Cond.methodLink "ShareVaultLaw" (266 : Nat) ({ cls := "java/lang/Math", name := "max", desc := "(II)I" } : Jvm.MethodName)).before a s = true := h _ (tin7 (List.mem_of_getElem? (l := tables_1_7) (i := 169) rfl)) rfl a
set_option maxRecDepth 100000 in
theorem kc_L_does : Cond.code yL_does cL_does 9 (some .int) ∈ lw_tbl := tin3 (List.mem_of_getElem? (l := tables_1_3) (i := 235) rfl)
set_option maxRecDepth 100000 in
theorem ki_L_does : Cond.initialized yL_does.cls ∈ lw_tbl := tin1 (List.mem_of_getElem? (l := tables_1_1) (i := 0) rfl)
abbrev rmL_does : Room := { frames := 12, cells := 40, slots := 400, locals := 357 }
theorem kb_L_does {R : Room} {s : State} {args : Array Value} {own : String} {idx : Nat} (hT : mT s) (hlink : (Cond.methodLink own idx yL_does).before args s = true) (h1 : rmL_does.frames + 1 ≤ R.frames) (h2 : 8 + (9 + 11) + rmL_does.locals ≤ R.locals) : CallB R s args own idx yL_does cL_does 9 (some .int) [Cond.code yL_does cL_does 9 (some .int)] rmL_does 40 400 6 := m_callB hT kc_L_does ki_L_does hlink (by decide +kernel) ⟨rfl, rfl, h1, h2⟩
