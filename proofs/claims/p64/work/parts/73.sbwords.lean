set_option maxRecDepth 100000 in
theorem q976 {s : State} {a : Array Value} (h : mT s) : (Jvm.Cond.fieldLink "java/lang/AbstractStringBuilder" (18 : Nat) "java/lang/String" "COMPACT_STRINGS" "Z").before a s = true := h _ (tin5 (List.mem_of_getElem? (l := tables_1_5) (i := 16) rfl)) rfl a
set_option maxRecDepth 100000 in
theorem q985 {s : State} {a : Array Value} (h : mT s) : (Jvm.Cond.fieldLink "java/lang/AbstractStringBuilder" (15 : Nat) "java/lang/AbstractStringBuilder" "value" "[B").before a s = true := h _ (tin5 (List.mem_of_getElem? (l := tables_1_5) (i := 25) rfl)) rfl a
set_option maxRecDepth 100000 in
theorem q986 {s : State} {a : Array Value} (h : mT s) : (Jvm.Cond.fieldLink "java/lang/AbstractStringBuilder" (22 : Nat) "java/lang/AbstractStringBuilder" "coder" "B").before a s = true := h _ (tin5 (List.mem_of_getElem? (l := tables_1_5) (i := 26) rfl)) rfl a
set_option maxRecDepth 100000 in
theorem q1089 {s : State} {a : Array Value} (h : mT s) : (Jvm.Cond.methodLink "java/lang/AbstractStringBuilder" (40 : Nat) ({ cls := "java/lang/String", name := "coder", desc := "()B" } : Jvm.MethodName)).before a s = true := h _ (tin5 (List.mem_of_getElem? (l := tables_1_5) (i := 129) rfl)) rfl a
