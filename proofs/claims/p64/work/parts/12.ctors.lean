set_option maxRecDepth 100000 in
theorem q2 {s : State} {a : Array Value} (h : mT s) : (Jvm.Cond.initialized "ShareVault$State").before a s = true := h _ (tin1 (List.mem_of_getElem? (l := tables_1_1) (i := 2) rfl)) rfl a
set_option maxRecDepth 100000 in
theorem q3 {s : State} {a : Array Value} (h : mT s) : (Jvm.Cond.initialized "ShareVault$Keys").before a s = true := h _ (tin1 (List.mem_of_getElem? (l := tables_1_1) (i := 3) rfl)) rfl a
set_option maxRecDepth 100000 in
theorem q4 {s : State} {a : Array Value} (h : mT s) : (Jvm.Cond.initialized "ShareVault$Door").before a s = true := h _ (tin1 (List.mem_of_getElem? (l := tables_1_1) (i := 4) rfl)) rfl a
set_option maxRecDepth 100000 in
theorem q5 {s : State} {a : Array Value} (h : mT s) : (Jvm.Cond.initialized "ShareVault$Building").before a s = true := h _ (tin1 (List.mem_of_getElem? (l := tables_1_1) (i := 5) rfl)) rfl a
set_option maxRecDepth 100000 in
theorem q6 {s : State} {a : Array Value} (h : mT s) : (Jvm.Cond.initialized "ShareVault$Journal").before a s = true := h _ (tin1 (List.mem_of_getElem? (l := tables_1_1) (i := 6) rfl)) rfl a
set_option maxRecDepth 100000 in
theorem q7 {s : State} {a : Array Value} (h : mT s) : (Jvm.Cond.initialized "ShareVault$History").before a s = true := h _ (tin1 (List.mem_of_getElem? (l := tables_1_1) (i := 7) rfl)) rfl a
set_option maxRecDepth 100000 in
theorem q8 {s : State} {a : Array Value} (h : mT s) : (Jvm.Cond.initialized "ShareVault$Solver").before a s = true := h _ (tin1 (List.mem_of_getElem? (l := tables_1_1) (i := 8) rfl)) rfl a
set_option maxRecDepth 100000 in
theorem q9 {s : State} {a : Array Value} (h : mT s) : (Jvm.Cond.initialized "ShareVault$Commands").before a s = true := h _ (tin1 (List.mem_of_getElem? (l := tables_1_1) (i := 9) rfl)) rfl a
set_option maxRecDepth 100000 in
theorem q10 {s : State} {a : Array Value} (h : mT s) : (Jvm.Cond.initialized "ShareVault$Output").before a s = true := h _ (tin1 (List.mem_of_getElem? (l := tables_1_1) (i := 10) rfl)) rfl a
set_option maxRecDepth 100000 in
theorem q39 {s : State} {a : Array Value} (h : mT s) : (Jvm.Cond.methodLink "ShareVault" (1 : Nat) ({ cls := "java/lang/Object", name := "<init>", desc := "()V" } : Jvm.MethodName)).before a s = true := h _ (tin1 (List.mem_of_getElem? (l := tables_1_1) (i := 39) rfl)) rfl a
set_option maxRecDepth 100000 in
theorem q40 {s : State} {a : Array Value} (h : mT s) : (Jvm.Cond.instanceMethod ({ cls := "java/lang/Object", name := "<init>", desc := "()V" } : Jvm.MethodName)).before a s = true := h _ (tin1 (List.mem_of_getElem? (l := tables_1_1) (i := 40) rfl)) rfl a
set_option maxRecDepth 100000 in
theorem q41 {s : State} {a : Array Value} (h : mT s) : (Jvm.Cond.code ({ cls := "java/lang/Object", name := "<init>", desc := "()V" } : Jvm.MethodName) object_method_1_code (1 : Nat) (Option.none : Option Jvm.ClassFile.FieldType)).before a s = true := h _ (tin1 (List.mem_of_getElem? (l := tables_1_1) (i := 41) rfl)) rfl a
set_option maxRecDepth 100000 in
theorem q42 {s : State} {a : Array Value} (h : mT s) : (Jvm.Cond.classLink "ShareVault" (7 : Nat) "ShareVault$State").before a s = true := h _ (tin1 (List.mem_of_getElem? (l := tables_1_1) (i := 42) rfl)) rfl a
set_option maxRecDepth 100000 in
theorem q43 {s : State} {a : Array Value} (h : mT s) : (Jvm.Cond.instantiable "ShareVault$State" (5 : Nat)).before a s = true := h _ (tin1 (List.mem_of_getElem? (l := tables_1_1) (i := 43) rfl)) rfl a
set_option maxRecDepth 100000 in
theorem q44 {s : State} {a : Array Value} (h : mT s) : (Jvm.Cond.methodLinkNest "ShareVault" (9 : Nat) ({ cls := "ShareVault$State", name := "<init>", desc := "()V" } : Jvm.MethodName) "ShareVault").before a s = true := h _ (tin1 (List.mem_of_getElem? (l := tables_1_1) (i := 44) rfl)) rfl a
set_option maxRecDepth 100000 in
theorem q45 {s : State} {a : Array Value} (h : mT s) : (Jvm.Cond.instanceMethod ({ cls := "ShareVault$State", name := "<init>", desc := "()V" } : Jvm.MethodName)).before a s = true := h _ (tin1 (List.mem_of_getElem? (l := tables_1_1) (i := 45) rfl)) rfl a
set_option maxRecDepth 100000 in
theorem q47 {s : State} {a : Array Value} (h : mT s) : (Jvm.Cond.methodLink "ShareVault$State" (3 : Nat) ({ cls := "java/lang/Object", name := "<init>", desc := "()V" } : Jvm.MethodName)).before a s = true := h _ (tin1 (List.mem_of_getElem? (l := tables_1_1) (i := 47) rfl)) rfl a
set_option maxRecDepth 100000 in
theorem q48 {s : State} {a : Array Value} (h : mT s) : (Jvm.Cond.classLink "ShareVault$State" (9 : Nat) "ShareVault$Keys").before a s = true := h _ (tin1 (List.mem_of_getElem? (l := tables_1_1) (i := 48) rfl)) rfl a
set_option maxRecDepth 100000 in
theorem q49 {s : State} {a : Array Value} (h : mT s) : (Jvm.Cond.instantiable "ShareVault$Keys" (7 : Nat)).before a s = true := h _ (tin1 (List.mem_of_getElem? (l := tables_1_1) (i := 49) rfl)) rfl a
set_option maxRecDepth 100000 in
theorem q50 {s : State} {a : Array Value} (h : mT s) : (Jvm.Cond.methodLinkNest "ShareVault$State" (11 : Nat) ({ cls := "ShareVault$Keys", name := "<init>", desc := "()V" } : Jvm.MethodName) "ShareVault").before a s = true := h _ (tin1 (List.mem_of_getElem? (l := tables_1_1) (i := 50) rfl)) rfl a
set_option maxRecDepth 100000 in
theorem q51 {s : State} {a : Array Value} (h : mT s) : (Jvm.Cond.instanceMethod ({ cls := "ShareVault$Keys", name := "<init>", desc := "()V" } : Jvm.MethodName)).before a s = true := h _ (tin1 (List.mem_of_getElem? (l := tables_1_1) (i := 51) rfl)) rfl a
set_option maxRecDepth 100000 in
theorem q53 {s : State} {a : Array Value} (h : mT s) : (Jvm.Cond.methodLink "ShareVault$Keys" (3 : Nat) ({ cls := "java/lang/Object", name := "<init>", desc := "()V" } : Jvm.MethodName)).before a s = true := h _ (tin1 (List.mem_of_getElem? (l := tables_1_1) (i := 53) rfl)) rfl a
set_option maxRecDepth 100000 in
theorem q91 {s : State} {a : Array Value} (h : mT s) : (Jvm.Cond.arrayClass Jvm.ClassFile.FieldType.int).before a s = true := h _ (tin1 (List.mem_of_getElem? (l := tables_1_1) (i := 91) rfl)) rfl a
set_option maxRecDepth 100000 in
theorem q92 {s : State} {a : Array Value} (h : mT s) : (Jvm.Cond.classLink "ShareVault$State" (18 : Nat) "ShareVault$Door").before a s = true := h _ (tin1 (List.mem_of_getElem? (l := tables_1_1) (i := 92) rfl)) rfl a
set_option maxRecDepth 100000 in
theorem q93 {s : State} {a : Array Value} (h : mT s) : (Jvm.Cond.instantiable "ShareVault$Door" (4 : Nat)).before a s = true := h _ (tin1 (List.mem_of_getElem? (l := tables_1_1) (i := 93) rfl)) rfl a
set_option maxRecDepth 100000 in
theorem q94 {s : State} {a : Array Value} (h : mT s) : (Jvm.Cond.methodLinkNest "ShareVault$State" (20 : Nat) ({ cls := "ShareVault$Door", name := "<init>", desc := "()V" } : Jvm.MethodName) "ShareVault").before a s = true := h _ (tin1 (List.mem_of_getElem? (l := tables_1_1) (i := 94) rfl)) rfl a
set_option maxRecDepth 100000 in
theorem q95 {s : State} {a : Array Value} (h : mT s) : (Jvm.Cond.instanceMethod ({ cls := "ShareVault$Door", name := "<init>", desc := "()V" } : Jvm.MethodName)).before a s = true := h _ (tin1 (List.mem_of_getElem? (l := tables_1_1) (i := 95) rfl)) rfl a
set_option maxRecDepth 100000 in
theorem q97 {s : State} {a : Array Value} (h : mT s) : (Jvm.Cond.methodLink "ShareVault$Door" (3 : Nat) ({ cls := "java/lang/Object", name := "<init>", desc := "()V" } : Jvm.MethodName)).before a s = true := h _ (tin1 (List.mem_of_getElem? (l := tables_1_1) (i := 97) rfl)) rfl a
set_option maxRecDepth 100000 in
theorem q118 {s : State} {a : Array Value} (h : mT s) : (Jvm.Cond.classLink "ShareVault$State" (25 : Nat) "ShareVault$Building").before a s = true := h _ (tin1 (List.mem_of_getElem? (l := tables_1_1) (i := 118) rfl)) rfl a
set_option maxRecDepth 100000 in
theorem q119 {s : State} {a : Array Value} (h : mT s) : (Jvm.Cond.instantiable "ShareVault$Building" (8 : Nat)).before a s = true := h _ (tin1 (List.mem_of_getElem? (l := tables_1_1) (i := 119) rfl)) rfl a
set_option maxRecDepth 100000 in
theorem q120 {s : State} {a : Array Value} (h : mT s) : (Jvm.Cond.methodLinkNest "ShareVault$State" (27 : Nat) ({ cls := "ShareVault$Building", name := "<init>", desc := "()V" } : Jvm.MethodName) "ShareVault").before a s = true := h _ (tin1 (List.mem_of_getElem? (l := tables_1_1) (i := 120) rfl)) rfl a
set_option maxRecDepth 100000 in
theorem q121 {s : State} {a : Array Value} (h : mT s) : (Jvm.Cond.instanceMethod ({ cls := "ShareVault$Building", name := "<init>", desc := "()V" } : Jvm.MethodName)).before a s = true := h _ (tin1 (List.mem_of_getElem? (l := tables_1_1) (i := 121) rfl)) rfl a
set_option maxRecDepth 100000 in
theorem q123 {s : State} {a : Array Value} (h : mT s) : (Jvm.Cond.methodLink "ShareVault$Building" (3 : Nat) ({ cls := "java/lang/Object", name := "<init>", desc := "()V" } : Jvm.MethodName)).before a s = true := h _ (tin1 (List.mem_of_getElem? (l := tables_1_1) (i := 123) rfl)) rfl a
set_option maxRecDepth 100000 in
theorem q161 {s : State} {a : Array Value} (h : mT s) : (Jvm.Cond.arrayClass Jvm.ClassFile.FieldType.boolean).before a s = true := h _ (tin1 (List.mem_of_getElem? (l := tables_1_1) (i := 161) rfl)) rfl a
set_option maxRecDepth 100000 in
theorem q162 {s : State} {a : Array Value} (h : mT s) : (Jvm.Cond.classLink "ShareVault$State" (32 : Nat) "ShareVault$Journal").before a s = true := h _ (tin1 (List.mem_of_getElem? (l := tables_1_1) (i := 162) rfl)) rfl a
set_option maxRecDepth 100000 in
theorem q163 {s : State} {a : Array Value} (h : mT s) : (Jvm.Cond.instantiable "ShareVault$Journal" (4 : Nat)).before a s = true := h _ (tin1 (List.mem_of_getElem? (l := tables_1_1) (i := 163) rfl)) rfl a
set_option maxRecDepth 100000 in
theorem q164 {s : State} {a : Array Value} (h : mT s) : (Jvm.Cond.methodLinkNest "ShareVault$State" (34 : Nat) ({ cls := "ShareVault$Journal", name := "<init>", desc := "()V" } : Jvm.MethodName) "ShareVault").before a s = true := h _ (tin1 (List.mem_of_getElem? (l := tables_1_1) (i := 164) rfl)) rfl a
set_option maxRecDepth 100000 in
theorem q165 {s : State} {a : Array Value} (h : mT s) : (Jvm.Cond.instanceMethod ({ cls := "ShareVault$Journal", name := "<init>", desc := "()V" } : Jvm.MethodName)).before a s = true := h _ (tin1 (List.mem_of_getElem? (l := tables_1_1) (i := 165) rfl)) rfl a
set_option maxRecDepth 100000 in
theorem q167 {s : State} {a : Array Value} (h : mT s) : (Jvm.Cond.methodLink "ShareVault$Journal" (3 : Nat) ({ cls := "java/lang/Object", name := "<init>", desc := "()V" } : Jvm.MethodName)).before a s = true := h _ (tin1 (List.mem_of_getElem? (l := tables_1_1) (i := 167) rfl)) rfl a
set_option maxRecDepth 100000 in
theorem q185 {s : State} {a : Array Value} (h : mT s) : (Jvm.Cond.arrayClass Jvm.ClassFile.FieldType.char).before a s = true := h _ (tin1 (List.mem_of_getElem? (l := tables_1_1) (i := 185) rfl)) rfl a
set_option maxRecDepth 100000 in
theorem q207 {s : State} {a : Array Value} (h : mT s) : (Jvm.Cond.classLink "ShareVault" (16 : Nat) "ShareVault$History").before a s = true := h _ (tin1 (List.mem_of_getElem? (l := tables_1_1) (i := 207) rfl)) rfl a
set_option maxRecDepth 100000 in
theorem q208 {s : State} {a : Array Value} (h : mT s) : (Jvm.Cond.instantiable "ShareVault$History" (3 : Nat)).before a s = true := h _ (tin1 (List.mem_of_getElem? (l := tables_1_1) (i := 208) rfl)) rfl a
set_option maxRecDepth 100000 in
theorem q209 {s : State} {a : Array Value} (h : mT s) : (Jvm.Cond.methodLink "ShareVault" (18 : Nat) ({ cls := "ShareVault$History", name := "<init>", desc := "()V" } : Jvm.MethodName)).before a s = true := h _ (tin1 (List.mem_of_getElem? (l := tables_1_1) (i := 209) rfl)) rfl a
set_option maxRecDepth 100000 in
theorem q210 {s : State} {a : Array Value} (h : mT s) : (Jvm.Cond.instanceMethod ({ cls := "ShareVault$History", name := "<init>", desc := "()V" } : Jvm.MethodName)).before a s = true := h _ (tin1 (List.mem_of_getElem? (l := tables_1_1) (i := 210) rfl)) rfl a
set_option maxRecDepth 100000 in
theorem q212 {s : State} {a : Array Value} (h : mT s) : (Jvm.Cond.methodLink "ShareVault$History" (3 : Nat) ({ cls := "java/lang/Object", name := "<init>", desc := "()V" } : Jvm.MethodName)).before a s = true := h _ (tin1 (List.mem_of_getElem? (l := tables_1_1) (i := 212) rfl)) rfl a
set_option maxRecDepth 100000 in
theorem q213 {s : State} {a : Array Value} (h : mT s) : (Jvm.Cond.classLink "ShareVault$History" (11 : Nat) "ShareVault$State").before a s = true := h _ (tin1 (List.mem_of_getElem? (l := tables_1_1) (i := 213) rfl)) rfl a
set_option maxRecDepth 100000 in
theorem q215 {s : State} {a : Array Value} (h : mT s) : (Jvm.Cond.methodLinkNest "ShareVault$History" (17 : Nat) ({ cls := "ShareVault$State", name := "<init>", desc := "()V" } : Jvm.MethodName) "ShareVault").before a s = true := h _ (tin1 (List.mem_of_getElem? (l := tables_1_1) (i := 215) rfl)) rfl a
set_option maxRecDepth 100000 in
theorem q227 {s : State} {a : Array Value} (h : mT s) : (Jvm.Cond.classLink "ShareVault" (26 : Nat) "ShareVault$Building").before a s = true := h _ (tin1 (List.mem_of_getElem? (l := tables_1_1) (i := 227) rfl)) rfl a
set_option maxRecDepth 100000 in
theorem q228 {s : State} {a : Array Value} (h : mT s) : (Jvm.Cond.methodLinkNest "ShareVault" (28 : Nat) ({ cls := "ShareVault$Building", name := "<init>", desc := "()V" } : Jvm.MethodName) "ShareVault").before a s = true := h _ (tin1 (List.mem_of_getElem? (l := tables_1_1) (i := 228) rfl)) rfl a
set_option maxRecDepth 100000 in
theorem q229 {s : State} {a : Array Value} (h : mT s) : (Jvm.Cond.classLink "ShareVault" (33 : Nat) "ShareVault$Solver").before a s = true := h _ (tin1 (List.mem_of_getElem? (l := tables_1_1) (i := 229) rfl)) rfl a
set_option maxRecDepth 100000 in
theorem q230 {s : State} {a : Array Value} (h : mT s) : (Jvm.Cond.instantiable "ShareVault$Solver" (3 : Nat)).before a s = true := h _ (tin1 (List.mem_of_getElem? (l := tables_1_1) (i := 230) rfl)) rfl a
set_option maxRecDepth 100000 in
theorem q231 {s : State} {a : Array Value} (h : mT s) : (Jvm.Cond.methodLinkNest "ShareVault" (35 : Nat) ({ cls := "ShareVault$Solver", name := "<init>", desc := "()V" } : Jvm.MethodName) "ShareVault").before a s = true := h _ (tin1 (List.mem_of_getElem? (l := tables_1_1) (i := 231) rfl)) rfl a
set_option maxRecDepth 100000 in
theorem q232 {s : State} {a : Array Value} (h : mT s) : (Jvm.Cond.instanceMethod ({ cls := "ShareVault$Solver", name := "<init>", desc := "()V" } : Jvm.MethodName)).before a s = true := h _ (tin1 (List.mem_of_getElem? (l := tables_1_1) (i := 232) rfl)) rfl a
set_option maxRecDepth 100000 in
theorem q234 {s : State} {a : Array Value} (h : mT s) : (Jvm.Cond.methodLink "ShareVault$Solver" (3 : Nat) ({ cls := "java/lang/Object", name := "<init>", desc := "()V" } : Jvm.MethodName)).before a s = true := h _ (tin1 (List.mem_of_getElem? (l := tables_1_1) (i := 234) rfl)) rfl a
set_option maxRecDepth 100000 in
theorem q235 {s : State} {a : Array Value} (h : mT s) : (Jvm.Cond.classLink "ShareVault$Solver" (9 : Nat) "[[I").before a s = true := h _ (tin1 (List.mem_of_getElem? (l := tables_1_1) (i := 235) rfl)) rfl a
set_option maxRecDepth 100000 in
theorem q247 {s : State} {a : Array Value} (h : mT s) : (Jvm.Cond.classLink "ShareVault" (40 : Nat) "ShareVault$Commands").before a s = true := h _ (tin2 (List.mem_of_getElem? (l := tables_1_2) (i := 7) rfl)) rfl a
set_option maxRecDepth 100000 in
theorem q248 {s : State} {a : Array Value} (h : mT s) : (Jvm.Cond.instantiable "ShareVault$Commands" (7 : Nat)).before a s = true := h _ (tin2 (List.mem_of_getElem? (l := tables_1_2) (i := 8) rfl)) rfl a
set_option maxRecDepth 100000 in
theorem q249 {s : State} {a : Array Value} (h : mT s) : (Jvm.Cond.methodLinkNest "ShareVault" (42 : Nat) ({ cls := "ShareVault$Commands", name := "<init>", desc := "()V" } : Jvm.MethodName) "ShareVault").before a s = true := h _ (tin2 (List.mem_of_getElem? (l := tables_1_2) (i := 9) rfl)) rfl a
set_option maxRecDepth 100000 in
theorem q250 {s : State} {a : Array Value} (h : mT s) : (Jvm.Cond.instanceMethod ({ cls := "ShareVault$Commands", name := "<init>", desc := "()V" } : Jvm.MethodName)).before a s = true := h _ (tin2 (List.mem_of_getElem? (l := tables_1_2) (i := 10) rfl)) rfl a
set_option maxRecDepth 100000 in
theorem q252 {s : State} {a : Array Value} (h : mT s) : (Jvm.Cond.methodLink "ShareVault$Commands" (3 : Nat) ({ cls := "java/lang/Object", name := "<init>", desc := "()V" } : Jvm.MethodName)).before a s = true := h _ (tin2 (List.mem_of_getElem? (l := tables_1_2) (i := 12) rfl)) rfl a
set_option maxRecDepth 100000 in
theorem q253 {s : State} {a : Array Value} (h : mT s) : (Jvm.Cond.classLink "ShareVault$Commands" (15 : Nat) "ShareVault$Word").before a s = true := h _ (tin2 (List.mem_of_getElem? (l := tables_1_2) (i := 13) rfl)) rfl a
set_option maxRecDepth 100000 in
theorem q255 {s : State} {a : Array Value} (h : mT s) : (Jvm.Cond.classLink "ShareVault$Commands" (21 : Nat) "[[I").before a s = true := h _ (tin2 (List.mem_of_getElem? (l := tables_1_2) (i := 15) rfl)) rfl a
set_option maxRecDepth 100000 in
theorem q282 {s : State} {a : Array Value} (h : mT s) : (Jvm.Cond.classLink "ShareVault" (47 : Nat) "ShareVault$Output").before a s = true := h _ (tin2 (List.mem_of_getElem? (l := tables_1_2) (i := 42) rfl)) rfl a
set_option maxRecDepth 100000 in
theorem q283 {s : State} {a : Array Value} (h : mT s) : (Jvm.Cond.instantiable "ShareVault$Output" (2 : Nat)).before a s = true := h _ (tin2 (List.mem_of_getElem? (l := tables_1_2) (i := 43) rfl)) rfl a
set_option maxRecDepth 100000 in
theorem q284 {s : State} {a : Array Value} (h : mT s) : (Jvm.Cond.methodLinkNest "ShareVault" (49 : Nat) ({ cls := "ShareVault$Output", name := "<init>", desc := "()V" } : Jvm.MethodName) "ShareVault").before a s = true := h _ (tin2 (List.mem_of_getElem? (l := tables_1_2) (i := 44) rfl)) rfl a
set_option maxRecDepth 100000 in
theorem q285 {s : State} {a : Array Value} (h : mT s) : (Jvm.Cond.instanceMethod ({ cls := "ShareVault$Output", name := "<init>", desc := "()V" } : Jvm.MethodName)).before a s = true := h _ (tin2 (List.mem_of_getElem? (l := tables_1_2) (i := 45) rfl)) rfl a
set_option maxRecDepth 100000 in
theorem q287 {s : State} {a : Array Value} (h : mT s) : (Jvm.Cond.methodLink "ShareVault$Output" (3 : Nat) ({ cls := "java/lang/Object", name := "<init>", desc := "()V" } : Jvm.MethodName)).before a s = true := h _ (tin2 (List.mem_of_getElem? (l := tables_1_2) (i := 47) rfl)) rfl a
set_option maxRecDepth 100000 in
theorem q288 {s : State} {a : Array Value} (h : mT s) : (Jvm.Cond.fieldLink "ShareVault$Output" (9 : Nat) "ShareVault$Output" "signs" "[C").before a s = true := h _ (tin2 (List.mem_of_getElem? (l := tables_1_2) (i := 48) rfl)) rfl a
set_option maxRecDepth 100000 in
theorem q301 {s : State} {a : Array Value} (h : mT s) : (Jvm.Cond.fieldLink "ShareVault" (50 : Nat) "ShareVault" "output" "LShareVault$Output;").before a s = true := h _ (tin2 (List.mem_of_getElem? (l := tables_1_2) (i := 61) rfl)) rfl a
theorem g_cn {R : Room} {s : State} {args : Array Value} {y : MethodName} {bytes : ByteArray} {maxL n idx mc ms : Nat} {rm : Room} {own host : String} (hT : mT s) (hcode : Cond.code y bytes maxL none ∈ lw_tbl) (hini : Cond.initialized y.cls ∈ lw_tbl) (hlink : (Cond.methodLinkNest own idx y host).before args s = true)
    (hd : y.cls ≠ "java/lang/invoke/MethodHandle" ∧ y.cls ≠ "java/lang/invoke/VarHandle" ∧ (parseMethodDescriptor y.desc).map (fun d => d.parameters.length) = some n) (hrm : rm.cells = mc ∧ rm.slots = ms ∧ rm.frames + 1 ≤ R.frames ∧ 8 + (maxL + 11) + rm.locals ≤ R.locals) :
    va_CN R s args own idx y host bytes maxL none [Cond.code y bytes maxL none] rm mc ms n := by
  refine ⟨⟨hrm.1, hrm.2.1, hrm.2.2.1, hrm.2.2.2, fun w hw a' U hW => ?_, List.mem_cons_self⟩, hT _ hcode rfl _, hT _ hini rfl _, ⟨hd.1, hd.2.1⟩, fun sig h => ?_, hlink⟩
  · obtain rfl := List.mem_singleton.mp hw
    exact word_at hW (good_of_word rfl) (hT _ hcode rfl args)
  · have h2 := hd.2.2
    rw [h] at h2
    exact (Option.some.inj h2).symm
theorem df_X3 : ∀ j, j < 4 → defaultValue (tyX3 j) = vp_V [.int 0, .int 0, .int 0, .int 0] j := fun j hj => match j, hj with
  | 0, _ => rfl
  | 1, _ => rfl
  | 2, _ => rfl
  | 3, _ => rfl
  | _ + 4, h => absurd h (by omega)
set_option maxRecDepth 100000 in
theorem kc_X3_init : Cond.code yX3_init cX3_init 1 none ∈ lw_tbl := (tin1 (List.mem_of_getElem? (l := tables_1_1) (i := 96) rfl))
def ws_X3 (w : WD) (a z : Nat) : va_W := [(a, .inr (2, [.int 0, .int 0, .int 0, .int 0]))]
theorem ge_X3 (w : WD) (a z : Nat) (h : a ≤ z) : ∀ q ∈ ws_X3 w a z, a ≤ q.1 := by
  intro q hq
  unfold ws_X3 at hq
  simp only [List.mem_cons, List.not_mem_nil, or_false] at hq
  subst hq
  all_goals (dsimp only; omega)
set_option maxRecDepth 100000 in
theorem gc_X3 (l : Launch) (w : WD) (sz a : Nat) : gMet l yX3_init cX3_init 1 { frames := 1, cells := 0, slots := 0, locals := 13 } w sz a (.inr (2, [.int 0, .int 0, .int 0, .int 0])) (ws_X3 w a sz) 0 0 := by
  refine g_of (by decide) rfl (Nat.le_of_ble_eq_true rfl) ?_
  intro p e s m args below meth c hx hb hr hml hown hlk hin hsz hI ls hl
  subst hsz
  have hl : lv_has ls 1 [(0, .ref a)] := hl
  refine lv_aload_n hx hb dX3_init_0 rfl (lv_at hl 0 rfl) ?_
  refine W.objInit hx hb hown (q97 hI.T) (q40 hI.T) (q41 hI.T) rfl (hl.1.trans hml.symm) rfl dX3_init_1 (Nat.le_of_ble_eq_true rfl) (Nat.le_of_ble_eq_true rfl) ?_
  refine W.eq (g2 := F0 m 4 ls []) rfl ?_
  exact g_ret hx hb hr hlk hI rfl dX3_init_4
theorem df_X6 : ∀ j, j < 7 → defaultValue (tyX6 j) = vp_V [.int 0, .null, .int 0, .int 0, .null, .int 0, .null] j := fun j hj => match j, hj with
  | 0, _ => rfl
  | 1, _ => rfl
  | 2, _ => rfl
  | 3, _ => rfl
  | 4, _ => rfl
  | 5, _ => rfl
  | 6, _ => rfl
  | _ + 7, h => absurd h (by omega)
set_option maxRecDepth 100000 in
theorem kc_X6_init : Cond.code yX6_init cX6_init 1 none ∈ lw_tbl := (tin1 (List.mem_of_getElem? (l := tables_1_1) (i := 52) rfl))
def ws_X6 (w : WD) (a z : Nat) : va_W := [(a, .inr (5, [.int 0, .ref (z), .int 0, .int 0, .ref (z + 1), .int 0, .ref (z + 2)])), (z, .inl (w.2.2.1 0, 8, .inl fun _ => 0)), (z + 1, .inl (w.2.2.1 0, 3, .inl fun _ => 0)), (z + 2, .inl (w.2.2.1 0, 8, .inl fun _ => 0))]
theorem ge_X6 (w : WD) (a z : Nat) (h : a ≤ z) : ∀ q ∈ ws_X6 w a z, a ≤ q.1 := by
  intro q hq
  unfold ws_X6 at hq
  simp only [List.mem_cons, List.not_mem_nil, or_false] at hq
  rcases hq with rfl | rfl | rfl | rfl
  all_goals (dsimp only; omega)
set_option maxRecDepth 100000 in
theorem gc_X6 (l : Launch) (w : WD) (sz a : Nat) : gMet l yX6_init cX6_init 1 { frames := 1, cells := 3, slots := 19, locals := 13 } w sz a (.inr (5, [.int 0, .null, .int 0, .int 0, .null, .int 0, .null])) (ws_X6 w a sz) 3 19 := by
  refine g_of (by decide) rfl (Nat.le_of_ble_eq_true rfl) ?_
  intro p e s m args below meth c hx hb hr hml hown hlk hin hsz hI ls hl
  subst hsz
  have hl : lv_has ls 1 [(0, .ref a)] := hl
  refine lv_aload_n hx hb dX6_init_0 rfl (lv_at hl 0 rfl) ?_
  refine W.objInit hx hb hown (q53 hI.T) (q40 hI.T) (q41 hI.T) rfl (hl.1.trans hml.symm) rfl dX6_init_1 (Nat.le_of_ble_eq_true rfl) (Nat.le_of_ble_eq_true rfl) ?_
  refine W.eq (g2 := F0 m 4 ls []) rfl ?_
  refine lv_aload_n hx hb dX6_init_4 rfl (lv_at hl 0 rfl) ?_
  refine lv_bipush (v := 8) hx hb dX6_init_5 (by decide) ?_
  refine g_newa (ty := .int) (t0 := 0) (N := 8) hx hb hI rfl (q91 hI.T) rfl (fun h => h) rfl (by decide) (by decide) (by decide) (Nat.le_of_ble_eq_true rfl) (Nat.le_of_ble_eq_true rfl) dX6_init_7 (fun H hI => ?_)
  refine g_putF (T := TX6) (N := 7) (k := 1) (ty := .array (.int)) hx hb hI hown rfl (by decide) lyX6 tyX6 tyX6_ok nmX6 (q57 hI.T) hin rfl rfl rfl rfl rfl (Nat.le_of_ble_eq_true rfl) dX6_init_9 (fun H locs hI => ?_)
  refine lv_aload_n hx hb dX6_init_12 rfl (lv_at hl 0 rfl) ?_
  refine lv_iconst (v := 3) hx hb dX6_init_13 (by decide) ?_
  refine g_newa (ty := .int) (t0 := 0) (N := 3) hx hb hI rfl (q91 hI.T) rfl (fun h => h) rfl (by decide) (by decide) (by decide) (Nat.le_of_ble_eq_true rfl) (Nat.le_of_ble_eq_true rfl) dX6_init_14 (fun H hI => ?_)
  refine g_putF (T := TX6) (N := 7) (k := 4) (ty := .array (.int)) hx hb hI hown rfl (by decide) lyX6 tyX6 tyX6_ok nmX6 (q68 hI.T) hin rfl rfl rfl rfl rfl (Nat.le_of_ble_eq_true rfl) dX6_init_16 (fun H locs hI => ?_)
  refine lv_aload_n hx hb dX6_init_19 rfl (lv_at hl 0 rfl) ?_
  refine lv_bipush (v := 8) hx hb dX6_init_20 (by decide) ?_
  refine g_newa (ty := .int) (t0 := 0) (N := 8) hx hb hI rfl (q91 hI.T) rfl (fun h => h) rfl (by decide) (by decide) (by decide) (Nat.le_of_ble_eq_true rfl) (Nat.le_of_ble_eq_true rfl) dX6_init_22 (fun H hI => ?_)
  refine g_putF (T := TX6) (N := 7) (k := 6) (ty := .array (.int)) hx hb hI hown rfl (by decide) lyX6 tyX6 tyX6_ok nmX6 (q73 hI.T) hin rfl rfl rfl rfl rfl (Nat.le_of_ble_eq_true rfl) dX6_init_24 (fun H locs hI => ?_)
  exact g_ret hx hb hr hlk hI rfl dX6_init_27
theorem df_X1 : ∀ j, j < 8 → defaultValue (tyX1 j) = vp_V [.int 0, .null, .null, .int 0, .int 0, .null, .null, .null] j := fun j hj => match j, hj with
  | 0, _ => rfl
  | 1, _ => rfl
  | 2, _ => rfl
  | 3, _ => rfl
  | 4, _ => rfl
  | 5, _ => rfl
  | 6, _ => rfl
  | 7, _ => rfl
  | _ + 8, h => absurd h (by omega)
set_option maxRecDepth 100000 in
theorem kc_X1_init : Cond.code yX1_init cX1_init 1 none ∈ lw_tbl := (tin1 (List.mem_of_getElem? (l := tables_1_1) (i := 122) rfl))
def ws_X1 (w : WD) (a z : Nat) : va_W := [(a, .inr (0, [.int 0, .ref (z), .ref (z + 1), .int 0, .int 0, .ref (z + 2), .ref (z + 3), .ref (z + 4)])), (z, .inl (w.2.2.1 0, 8, .inl fun _ => 0)), (z + 1, .inl (w.2.2.1 0, 8, .inl fun _ => 0)), (z + 2, .inl (w.2.2.1 0, 3, .inl fun _ => 0)), (z + 3, .inl (w.2.2.1 1, 3, .inl fun _ => 0)), (z + 4, .inl (w.2.2.1 0, 3, .inl fun _ => 0))]
theorem ge_X1 (w : WD) (a z : Nat) (h : a ≤ z) : ∀ q ∈ ws_X1 w a z, a ≤ q.1 := by
  intro q hq
  unfold ws_X1 at hq
  simp only [List.mem_cons, List.not_mem_nil, or_false] at hq
  rcases hq with rfl | rfl | rfl | rfl | rfl | rfl
  all_goals (dsimp only; omega)
set_option maxRecDepth 100000 in
theorem gc_X1 (l : Launch) (w : WD) (sz a : Nat) : gMet l yX1_init cX1_init 1 { frames := 1, cells := 5, slots := 25, locals := 13 } w sz a (.inr (0, [.int 0, .null, .null, .int 0, .int 0, .null, .null, .null])) (ws_X1 w a sz) 5 25 := by
  refine g_of (by decide) rfl (Nat.le_of_ble_eq_true rfl) ?_
  intro p e s m args below meth c hx hb hr hml hown hlk hin hsz hI ls hl
  subst hsz
  have hl : lv_has ls 1 [(0, .ref a)] := hl
  refine lv_aload_n hx hb dX1_init_0 rfl (lv_at hl 0 rfl) ?_
  refine W.objInit hx hb hown (q123 hI.T) (q40 hI.T) (q41 hI.T) rfl (hl.1.trans hml.symm) rfl dX1_init_1 (Nat.le_of_ble_eq_true rfl) (Nat.le_of_ble_eq_true rfl) ?_
  refine W.eq (g2 := F0 m 4 ls []) rfl ?_
  refine lv_aload_n hx hb dX1_init_4 rfl (lv_at hl 0 rfl) ?_
  refine lv_bipush (v := 8) hx hb dX1_init_5 (by decide) ?_
  refine g_newa (ty := .int) (t0 := 0) (N := 8) hx hb hI rfl (q91 hI.T) rfl (fun h => h) rfl (by decide) (by decide) (by decide) (Nat.le_of_ble_eq_true rfl) (Nat.le_of_ble_eq_true rfl) dX1_init_7 (fun H hI => ?_)
  refine g_putF (T := TX1) (N := 8) (k := 1) (ty := .array (.int)) hx hb hI hown rfl (by decide) lyX1 tyX1 tyX1_ok nmX1 (q127 hI.T) hin rfl rfl rfl rfl rfl (Nat.le_of_ble_eq_true rfl) dX1_init_9 (fun H locs hI => ?_)
  refine lv_aload_n hx hb dX1_init_12 rfl (lv_at hl 0 rfl) ?_
  refine lv_bipush (v := 8) hx hb dX1_init_13 (by decide) ?_
  refine g_newa (ty := .int) (t0 := 0) (N := 8) hx hb hI rfl (q91 hI.T) rfl (fun h => h) rfl (by decide) (by decide) (by decide) (Nat.le_of_ble_eq_true rfl) (Nat.le_of_ble_eq_true rfl) dX1_init_15 (fun H hI => ?_)
  refine g_putF (T := TX1) (N := 8) (k := 2) (ty := .array (.int)) hx hb hI hown rfl (by decide) lyX1 tyX1 tyX1_ok nmX1 (q130 hI.T) hin rfl rfl rfl rfl rfl (Nat.le_of_ble_eq_true rfl) dX1_init_17 (fun H locs hI => ?_)
  refine lv_aload_n hx hb dX1_init_20 rfl (lv_at hl 0 rfl) ?_
  refine lv_iconst (v := 3) hx hb dX1_init_21 (by decide) ?_
  refine g_newa (ty := .int) (t0 := 0) (N := 3) hx hb hI rfl (q91 hI.T) rfl (fun h => h) rfl (by decide) (by decide) (by decide) (Nat.le_of_ble_eq_true rfl) (Nat.le_of_ble_eq_true rfl) dX1_init_22 (fun H hI => ?_)
  refine g_putF (T := TX1) (N := 8) (k := 5) (ty := .array (.int)) hx hb hI hown rfl (by decide) lyX1 tyX1 tyX1_ok nmX1 (q138 hI.T) hin rfl rfl rfl rfl rfl (Nat.le_of_ble_eq_true rfl) dX1_init_24 (fun H locs hI => ?_)
  refine lv_aload_n hx hb dX1_init_27 rfl (lv_at hl 0 rfl) ?_
  refine lv_iconst (v := 3) hx hb dX1_init_28 (by decide) ?_
  refine g_newa (ty := .boolean) (t0 := 1) (N := 3) hx hb hI rfl (q161 hI.T) rfl (fun h => h) rfl (by decide) (by decide) (by decide) (Nat.le_of_ble_eq_true rfl) (Nat.le_of_ble_eq_true rfl) dX1_init_29 (fun H hI => ?_)
  refine g_putF (T := TX1) (N := 8) (k := 6) (ty := .array (.boolean)) hx hb hI hown rfl (by decide) lyX1 tyX1 tyX1_ok nmX1 (q140 hI.T) hin rfl rfl rfl rfl rfl (Nat.le_of_ble_eq_true rfl) dX1_init_31 (fun H locs hI => ?_)
  refine lv_aload_n hx hb dX1_init_34 rfl (lv_at hl 0 rfl) ?_
  refine lv_iconst (v := 3) hx hb dX1_init_35 (by decide) ?_
  refine g_newa (ty := .int) (t0 := 0) (N := 3) hx hb hI rfl (q91 hI.T) rfl (fun h => h) rfl (by decide) (by decide) (by decide) (Nat.le_of_ble_eq_true rfl) (Nat.le_of_ble_eq_true rfl) dX1_init_36 (fun H hI => ?_)
  refine g_putF (T := TX1) (N := 8) (k := 7) (ty := .array (.int)) hx hb hI hown rfl (by decide) lyX1 tyX1 tyX1_ok nmX1 (q143 hI.T) hin rfl rfl rfl rfl rfl (Nat.le_of_ble_eq_true rfl) dX1_init_38 (fun H locs hI => ?_)
  exact g_ret hx hb hr hlk hI rfl dX1_init_41
theorem df_X5 : ∀ j, j < 4 → defaultValue (tyX5 j) = vp_V [.int 0, .null, .null, .null] j := fun j hj => match j, hj with
  | 0, _ => rfl
  | 1, _ => rfl
  | 2, _ => rfl
  | 3, _ => rfl
  | _ + 4, h => absurd h (by omega)
set_option maxRecDepth 100000 in
theorem kc_X5_init : Cond.code yX5_init cX5_init 1 none ∈ lw_tbl := (tin1 (List.mem_of_getElem? (l := tables_1_1) (i := 166) rfl))
def ws_X5 (w : WD) (a z : Nat) : va_W := [(a, .inr (4, [.int 0, .ref (z), .ref (z + 1), .ref (z + 2)])), (z, .inl (w.2.2.1 0, 12, .inl fun _ => 0)), (z + 1, .inl (w.2.2.1 2, 12, .inl fun _ => 0)), (z + 2, .inl (w.2.2.1 0, 12, .inl fun _ => 0))]
theorem ge_X5 (w : WD) (a z : Nat) (h : a ≤ z) : ∀ q ∈ ws_X5 w a z, a ≤ q.1 := by
  intro q hq
  unfold ws_X5 at hq
  simp only [List.mem_cons, List.not_mem_nil, or_false] at hq
  rcases hq with rfl | rfl | rfl | rfl
  all_goals (dsimp only; omega)
set_option maxRecDepth 100000 in
theorem gc_X5 (l : Launch) (w : WD) (sz a : Nat) : gMet l yX5_init cX5_init 1 { frames := 1, cells := 3, slots := 36, locals := 13 } w sz a (.inr (4, [.int 0, .null, .null, .null])) (ws_X5 w a sz) 3 36 := by
  refine g_of (by decide) rfl (Nat.le_of_ble_eq_true rfl) ?_
  intro p e s m args below meth c hx hb hr hml hown hlk hin hsz hI ls hl
  subst hsz
  have hl : lv_has ls 1 [(0, .ref a)] := hl
  refine lv_aload_n hx hb dX5_init_0 rfl (lv_at hl 0 rfl) ?_
  refine W.objInit hx hb hown (q167 hI.T) (q40 hI.T) (q41 hI.T) rfl (hl.1.trans hml.symm) rfl dX5_init_1 (Nat.le_of_ble_eq_true rfl) (Nat.le_of_ble_eq_true rfl) ?_
  refine W.eq (g2 := F0 m 4 ls []) rfl ?_
  refine lv_aload_n hx hb dX5_init_4 rfl (lv_at hl 0 rfl) ?_
  refine lv_bipush (v := 12) hx hb dX5_init_5 (by decide) ?_
  refine g_newa (ty := .int) (t0 := 0) (N := 12) hx hb hI rfl (q91 hI.T) rfl (fun h => h) rfl (by decide) (by decide) (by decide) (Nat.le_of_ble_eq_true rfl) (Nat.le_of_ble_eq_true rfl) dX5_init_7 (fun H hI => ?_)
  refine g_putF (T := TX5) (N := 4) (k := 1) (ty := .array (.int)) hx hb hI hown rfl (by decide) lyX5 tyX5 tyX5_ok nmX5 (q170 hI.T) hin rfl rfl rfl rfl rfl (Nat.le_of_ble_eq_true rfl) dX5_init_9 (fun H locs hI => ?_)
  refine lv_aload_n hx hb dX5_init_12 rfl (lv_at hl 0 rfl) ?_
  refine lv_bipush (v := 12) hx hb dX5_init_13 (by decide) ?_
  refine g_newa (ty := .char) (t0 := 2) (N := 12) hx hb hI rfl (q185 hI.T) rfl (fun h => h) rfl (by decide) (by decide) (by decide) (Nat.le_of_ble_eq_true rfl) (Nat.le_of_ble_eq_true rfl) dX5_init_15 (fun H hI => ?_)
  refine g_putF (T := TX5) (N := 4) (k := 2) (ty := .array (.char)) hx hb hI hown rfl (by decide) lyX5 tyX5 tyX5_ok nmX5 (q172 hI.T) hin rfl rfl rfl rfl rfl (Nat.le_of_ble_eq_true rfl) dX5_init_17 (fun H locs hI => ?_)
  refine lv_aload_n hx hb dX5_init_20 rfl (lv_at hl 0 rfl) ?_
  refine lv_bipush (v := 12) hx hb dX5_init_21 (by decide) ?_
  refine g_newa (ty := .int) (t0 := 0) (N := 12) hx hb hI rfl (q91 hI.T) rfl (fun h => h) rfl (by decide) (by decide) (by decide) (Nat.le_of_ble_eq_true rfl) (Nat.le_of_ble_eq_true rfl) dX5_init_23 (fun H hI => ?_)
  refine g_putF (T := TX5) (N := 4) (k := 3) (ty := .array (.int)) hx hb hI hown rfl (by decide) lyX5 tyX5 tyX5_ok nmX5 (q174 hI.T) hin rfl rfl rfl rfl rfl (Nat.le_of_ble_eq_true rfl) dX5_init_25 (fun H locs hI => ?_)
  exact g_ret hx hb hr hlk hI rfl dX5_init_28
theorem df_X7 : ∀ j, j < 2 → defaultValue (tyX7 j) = vp_V [.null, .int 0] j := fun j hj => match j, hj with
  | 0, _ => rfl
  | 1, _ => rfl
  | _ + 2, h => absurd h (by omega)
set_option maxRecDepth 100000 in
theorem kc_X7_init : Cond.code yX7_init cX7_init 1 none ∈ lw_tbl := (tin2 (List.mem_of_getElem? (l := tables_1_2) (i := 46) rfl))
def ws_X7 (w : WD) (a z : Nat) : va_W := [(a, .inr (6, [.ref (z), .int 0])), (z, .inl (w.2.2.1 2, 200, .inl fun _ => 0))]
theorem ge_X7 (w : WD) (a z : Nat) (h : a ≤ z) : ∀ q ∈ ws_X7 w a z, a ≤ q.1 := by
  intro q hq
  unfold ws_X7 at hq
  simp only [List.mem_cons, List.not_mem_nil, or_false] at hq
  rcases hq with rfl | rfl
  all_goals (dsimp only; omega)
set_option maxRecDepth 100000 in
theorem gc_X7 (l : Launch) (w : WD) (sz a : Nat) : gMet l yX7_init cX7_init 1 { frames := 1, cells := 1, slots := 200, locals := 13 } w sz a (.inr (6, [.null, .int 0])) (ws_X7 w a sz) 1 200 := by
  refine g_of (by decide) rfl (Nat.le_of_ble_eq_true rfl) ?_
  intro p e s m args below meth c hx hb hr hml hown hlk hin hsz hI ls hl
  subst hsz
  have hl : lv_has ls 1 [(0, .ref a)] := hl
  refine lv_aload_n hx hb dX7_init_0 rfl (lv_at hl 0 rfl) ?_
  refine W.objInit hx hb hown (q287 hI.T) (q40 hI.T) (q41 hI.T) rfl (hl.1.trans hml.symm) rfl dX7_init_1 (Nat.le_of_ble_eq_true rfl) (Nat.le_of_ble_eq_true rfl) ?_
  refine W.eq (g2 := F0 m 4 ls []) rfl ?_
  refine lv_aload_n hx hb dX7_init_4 rfl (lv_at hl 0 rfl) ?_
  refine lv_sipush (v := 200) hx hb dX7_init_5 (by decide) ?_
  refine g_newa (ty := .char) (t0 := 2) (N := 200) hx hb hI rfl (q185 hI.T) rfl (fun h => h) rfl (by decide) (by decide) (by decide) (Nat.le_of_ble_eq_true rfl) (Nat.le_of_ble_eq_true rfl) dX7_init_8 (fun H hI => ?_)
  refine g_putF (T := TX7) (N := 2) (k := 0) (ty := .array (.char)) hx hb hI hown rfl (by decide) lyX7 tyX7 tyX7_ok nmX7 (q288 hI.T) hin rfl rfl rfl rfl rfl (Nat.le_of_ble_eq_true rfl) dX7_init_10 (fun H locs hI => ?_)
  exact g_ret hx hb hr hlk hI rfl dX7_init_13
theorem df_X9 : ∀ j, j < 5 → defaultValue (tyX9 j) = vp_V [.null, .null, .null, .null, .int 0] j := fun j hj => match j, hj with
  | 0, _ => rfl
  | 1, _ => rfl
  | 2, _ => rfl
  | 3, _ => rfl
  | 4, _ => rfl
  | _ + 5, h => absurd h (by omega)
set_option maxRecDepth 100000 in
theorem kc_X9_init : Cond.code yX9_init cX9_init 1 none ∈ lw_tbl := (tin1 (List.mem_of_getElem? (l := tables_1_1) (i := 46) rfl))
def ws_X9 (w : WD) (a z : Nat) : va_W := [(a, .inr (8, [.ref (z), .ref (z + 4), .ref (z + 5), .ref (z + 11), .int 0]))] ++ (ws_X6 w (z) (z + 1)) ++ (ws_X3 w (z + 4) (z + 5)) ++ (ws_X1 w (z + 5) (z + 6)) ++ (ws_X5 w (z + 11) (z + 12))
theorem ge_X9 (w : WD) (a z : Nat) (h : a ≤ z) : ∀ q ∈ ws_X9 w a z, a ≤ q.1 := by
  intro q hq
  unfold ws_X9 at hq
  rcases List.mem_append.mp hq with hq | hq
  · rcases List.mem_append.mp hq with hq | hq
    · rcases List.mem_append.mp hq with hq | hq
      · rcases List.mem_append.mp hq with hq | hq
        · simp only [List.mem_cons, List.not_mem_nil, or_false] at hq
          subst hq
          all_goals (dsimp only; omega)
        · exact Nat.le_trans (by omega) (ge_X6 w _ _ (by omega) q hq)
      · exact Nat.le_trans (by omega) (ge_X3 w _ _ (by omega) q hq)
    · exact Nat.le_trans (by omega) (ge_X1 w _ _ (by omega) q hq)
  · exact Nat.le_trans (by omega) (ge_X5 w _ _ (by omega) q hq)
set_option maxRecDepth 100000 in
theorem gc_X9 (l : Launch) (w : WD) (sz a : Nat) : gMet l yX9_init cX9_init 1 { frames := 2, cells := 15, slots := 103, locals := 33 } w sz a (.inr (8, [.null, .null, .null, .null, .int 0])) (ws_X9 w a sz) 15 103 := by
  refine g_of (by decide) rfl (Nat.le_of_ble_eq_true rfl) ?_
  intro p e s m args below meth c hx hb hr hml hown hlk hin hsz hI ls hl
  subst hsz
  have hl : lv_has ls 1 [(0, .ref a)] := hl
  refine lv_aload_n hx hb dX9_init_0 rfl (lv_at hl 0 rfl) ?_
  refine W.objInit hx hb hown (q47 hI.T) (q40 hI.T) (q41 hI.T) rfl (hl.1.trans hml.symm) rfl dX9_init_1 (Nat.le_of_ble_eq_true rfl) (Nat.le_of_ble_eq_true rfl) ?_
  refine W.eq (g2 := F0 m 4 ls []) rfl ?_
  refine lv_aload_n hx hb dX9_init_4 rfl (lv_at hl 0 rfl) ?_
  refine g_make (host := "ShareVault") (T := TX6) (N := 7) (ci := 5) (fs := [.int 0, .null, .int 0, .int 0, .null, .int 0, .null]) hx hb hml hI hown rfl lyX6 tyX6 tyX6_ok (q48 hI.T) (q49 hI.T) (q3 hI.T) df_X6 (gc_X6 l w _ _) (ge_X6 w _ _ (Nat.le_succ _)) (Or.inr (g_cn hI.T kc_X6_init (tin1 (List.mem_of_getElem? (l := tables_1_1) (i := 3) rfl)) (q50 hI.T) (by decide +kernel) ⟨rfl, rfl, (Nat.le_of_ble_eq_true rfl), (Nat.le_of_ble_eq_true rfl)⟩)) rfl (q51 hI.T) hl.1 (Nat.le_of_ble_eq_true rfl) (Nat.le_of_ble_eq_true rfl) (Nat.le_of_ble_eq_true rfl) dX9_init_5 dX9_init_8 dX9_init_9 (fun H locs hI => ?_)
  refine g_putF (T := TX9) (N := 5) (k := 0) (ty := .object "ShareVault$Keys") hx hb hI hown rfl (by decide) lyX9 tyX9 tyX9_ok nmX9 (q186 hI.T) hin rfl rfl rfl rfl rfl (Nat.le_of_ble_eq_true rfl) dX9_init_12 (fun H locs hI => ?_)
  refine lv_aload_n hx hb dX9_init_15 rfl (lv_at hl 0 rfl) ?_
  refine g_make (host := "ShareVault") (T := TX3) (N := 4) (ci := 2) (fs := [.int 0, .int 0, .int 0, .int 0]) hx hb hml hI hown rfl lyX3 tyX3 tyX3_ok (q92 hI.T) (q93 hI.T) (q4 hI.T) df_X3 (gc_X3 l w _ _) (ge_X3 w _ _ (Nat.le_succ _)) (Or.inr (g_cn hI.T kc_X3_init (tin1 (List.mem_of_getElem? (l := tables_1_1) (i := 4) rfl)) (q94 hI.T) (by decide +kernel) ⟨rfl, rfl, (Nat.le_of_ble_eq_true rfl), (Nat.le_of_ble_eq_true rfl)⟩)) rfl (q95 hI.T) hl.1 (Nat.le_of_ble_eq_true rfl) (Nat.le_of_ble_eq_true rfl) (Nat.le_of_ble_eq_true rfl) dX9_init_16 dX9_init_19 dX9_init_20 (fun H locs hI => ?_)
  refine g_putF (T := TX9) (N := 5) (k := 1) (ty := .object "ShareVault$Door") hx hb hI hown rfl (by decide) lyX9 tyX9 tyX9_ok nmX9 (q188 hI.T) hin rfl rfl rfl rfl rfl (Nat.le_of_ble_eq_true rfl) dX9_init_23 (fun H locs hI => ?_)
  refine lv_aload_n hx hb dX9_init_26 rfl (lv_at hl 0 rfl) ?_
  refine g_make (host := "ShareVault") (T := TX1) (N := 8) (ci := 0) (fs := [.int 0, .null, .null, .int 0, .int 0, .null, .null, .null]) hx hb hml hI hown rfl lyX1 tyX1 tyX1_ok (q118 hI.T) (q119 hI.T) (q5 hI.T) df_X1 (gc_X1 l w _ _) (ge_X1 w _ _ (Nat.le_succ _)) (Or.inr (g_cn hI.T kc_X1_init (tin1 (List.mem_of_getElem? (l := tables_1_1) (i := 5) rfl)) (q120 hI.T) (by decide +kernel) ⟨rfl, rfl, (Nat.le_of_ble_eq_true rfl), (Nat.le_of_ble_eq_true rfl)⟩)) rfl (q121 hI.T) hl.1 (Nat.le_of_ble_eq_true rfl) (Nat.le_of_ble_eq_true rfl) (Nat.le_of_ble_eq_true rfl) dX9_init_27 dX9_init_30 dX9_init_31 (fun H locs hI => ?_)
  refine g_putF (T := TX9) (N := 5) (k := 2) (ty := .object "ShareVault$Building") hx hb hI hown rfl (by decide) lyX9 tyX9 tyX9_ok nmX9 (q190 hI.T) hin rfl rfl rfl rfl rfl (Nat.le_of_ble_eq_true rfl) dX9_init_34 (fun H locs hI => ?_)
  refine lv_aload_n hx hb dX9_init_37 rfl (lv_at hl 0 rfl) ?_
  refine g_make (host := "ShareVault") (T := TX5) (N := 4) (ci := 4) (fs := [.int 0, .null, .null, .null]) hx hb hml hI hown rfl lyX5 tyX5 tyX5_ok (q162 hI.T) (q163 hI.T) (q6 hI.T) df_X5 (gc_X5 l w _ _) (ge_X5 w _ _ (Nat.le_succ _)) (Or.inr (g_cn hI.T kc_X5_init (tin1 (List.mem_of_getElem? (l := tables_1_1) (i := 6) rfl)) (q164 hI.T) (by decide +kernel) ⟨rfl, rfl, (Nat.le_of_ble_eq_true rfl), (Nat.le_of_ble_eq_true rfl)⟩)) rfl (q165 hI.T) hl.1 (Nat.le_of_ble_eq_true rfl) (Nat.le_of_ble_eq_true rfl) (Nat.le_of_ble_eq_true rfl) dX9_init_38 dX9_init_41 dX9_init_42 (fun H locs hI => ?_)
  refine g_putF (T := TX9) (N := 5) (k := 3) (ty := .object "ShareVault$Journal") hx hb hI hown rfl (by decide) lyX9 tyX9 tyX9_ok nmX9 (q192 hI.T) hin rfl rfl rfl rfl rfl (Nat.le_of_ble_eq_true rfl) dX9_init_45 (fun H locs hI => ?_)
  exact g_ret hx hb hr hlk hI rfl dX9_init_48
theorem df_X8 : ∀ j, j < 3 → defaultValue (tyX8 j) = vp_V [.null, .null, .null] j := fun j hj => match j, hj with
  | 0, _ => rfl
  | 1, _ => rfl
  | 2, _ => rfl
  | _ + 3, h => absurd h (by omega)
set_option maxRecDepth 100000 in
theorem kc_X8_init : Cond.code yX8_init cX8_init 1 none ∈ lw_tbl := (tin1 (List.mem_of_getElem? (l := tables_1_1) (i := 233) rfl))
def ws_X8 (w : WD) (a z : Nat) : va_W := [(a, .inr (7, [.ref (z), .ref (z + 4), .ref (z + 5)])), (z, .inl (w.2.2.1 4, 3, .inr (.inr (.inr (.inr fun j => some (z + 1 + j))))))] ++ ((List.range 3).map (fun j => (z + 1 + j, (.inl (w.2.2.1 0, 4, .inl fun _ => 0) : va_E)))) ++ [(z + 4, .inl (w.2.2.1 0, 3, .inl fun _ => 0)), (z + 5, .inl (w.2.2.1 0, 8, .inl fun _ => 0))]
theorem ge_X8 (w : WD) (a z : Nat) (h : a ≤ z) : ∀ q ∈ ws_X8 w a z, a ≤ q.1 := by
  intro q hq
  unfold ws_X8 at hq
  rcases List.mem_append.mp hq with hq | hq
  · rcases List.mem_append.mp hq with hq | hq
    · simp only [List.mem_cons, List.not_mem_nil, or_false] at hq
      rcases hq with rfl | rfl
      all_goals (dsimp only; omega)
    · obtain ⟨i, -, rfl⟩ := List.mem_map.mp hq
      dsimp only
      omega
  · simp only [List.mem_cons, List.not_mem_nil, or_false] at hq
    rcases hq with rfl | rfl
    all_goals (dsimp only; omega)
set_option maxRecDepth 100000 in
theorem gc_X8 (l : Launch) (w : WD) (sz a : Nat) : gMet l yX8_init cX8_init 1 { frames := 1, cells := 6, slots := 26, locals := 13 } w sz a (.inr (7, [.null, .null, .null])) (ws_X8 w a sz) 6 26 := by
  refine g_of (by decide) rfl (Nat.le_of_ble_eq_true rfl) ?_
  intro p e s m args below meth c hx hb hr hml hown hlk hin hsz hI ls hl
  subst hsz
  have hl : lv_has ls 1 [(0, .ref a)] := hl
  refine lv_aload_n hx hb dX8_init_0 rfl (lv_at hl 0 rfl) ?_
  refine W.objInit hx hb hown (q234 hI.T) (q40 hI.T) (q41 hI.T) rfl (hl.1.trans hml.symm) rfl dX8_init_1 (Nat.le_of_ble_eq_true rfl) (Nat.le_of_ble_eq_true rfl) ?_
  refine W.eq (g2 := F0 m 4 ls []) rfl ?_
  refine lv_aload_n hx hb dX8_init_4 rfl (lv_at hl 0 rfl) ?_
  refine lv_iconst (v := 3) hx hb dX8_init_5 (by decide) ?_
  refine lv_iconst (v := 4) hx hb dX8_init_6 (by decide) ?_
  refine g_multi (tA := 4) (tI := 0) (N := 3) (K := 4) hx hb hI hown (q235 hI.T) (over_moved (Vm.Alike.refl s.vm) hI.T0.2.2.2) (q91 hI.T) rfl rfl (by decide) (by decide) (by decide) (by decide) (by decide) (by decide) (by decide) (Nat.le_of_ble_eq_true rfl) (Nat.le_of_ble_eq_true rfl) dX8_init_7 (fun H hI => ?_)
  refine g_putF (T := TX8) (N := 3) (k := 0) (ty := .array (.array (.int))) hx hb hI hown rfl (by decide) lyX8 tyX8 tyX8_ok nmX8 (q237 hI.T) hin rfl rfl rfl rfl rfl (Nat.le_of_ble_eq_true rfl) dX8_init_11 (fun H locs hI => ?_)
  refine lv_aload_n hx hb dX8_init_14 rfl (lv_at hl 0 rfl) ?_
  refine lv_iconst (v := 3) hx hb dX8_init_15 (by decide) ?_
  refine g_newa (ty := .int) (t0 := 0) (N := 3) hx hb hI rfl (q91 hI.T) rfl (fun h => h) rfl (by decide) (by decide) (by decide) (Nat.le_of_ble_eq_true rfl) (Nat.le_of_ble_eq_true rfl) dX8_init_16 (fun H hI => ?_)
  refine g_putF (T := TX8) (N := 3) (k := 1) (ty := .array (.int)) hx hb hI hown rfl (by decide) lyX8 tyX8 tyX8_ok nmX8 (q238 hI.T) hin rfl rfl rfl rfl rfl (Nat.le_of_ble_eq_true rfl) dX8_init_18 (fun H locs hI => ?_)
  refine lv_aload_n hx hb dX8_init_21 rfl (lv_at hl 0 rfl) ?_
  refine lv_bipush (v := 8) hx hb dX8_init_22 (by decide) ?_
  refine g_newa (ty := .int) (t0 := 0) (N := 8) hx hb hI rfl (q91 hI.T) rfl (fun h => h) rfl (by decide) (by decide) (by decide) (Nat.le_of_ble_eq_true rfl) (Nat.le_of_ble_eq_true rfl) dX8_init_24 (fun H hI => ?_)
  refine g_putF (T := TX8) (N := 3) (k := 2) (ty := .array (.int)) hx hb hI hown rfl (by decide) lyX8 tyX8 tyX8_ok nmX8 (q239 hI.T) hin rfl rfl rfl rfl rfl (Nat.le_of_ble_eq_true rfl) dX8_init_26 (fun H locs hI => ?_)
  exact g_ret hx hb hr hlk hI rfl dX8_init_29
theorem df_X2 : ∀ j, j < 7 → defaultValue (tyX2 j) = vp_V [.null, .int 0, .int 0, .int 0, .null, .null, .int 0] j := fun j hj => match j, hj with
  | 0, _ => rfl
  | 1, _ => rfl
  | 2, _ => rfl
  | 3, _ => rfl
  | 4, _ => rfl
  | 5, _ => rfl
  | 6, _ => rfl
  | _ + 7, h => absurd h (by omega)
set_option maxRecDepth 100000 in
theorem kc_X2_init : Cond.code yX2_init cX2_init 1 none ∈ lw_tbl := (tin2 (List.mem_of_getElem? (l := tables_1_2) (i := 11) rfl))
def ws_X2 (w : WD) (a z : Nat) : va_W := [(a, .inr (1, [.ref (z), .int 0, .int 0, .int 0, .ref (z + 1), .ref (z + 2), .int 0])), (z, .inl (w.2.2.1 2, 60, .inl fun _ => 0)), (z + 1, .inl (w.2.2.1 5, 15, .inr (.inr (.inr (.inr fun _ => none))))), (z + 2, .inl (w.2.2.1 4, 15, .inr (.inr (.inr (.inr fun j => some (z + 2 + 1 + j))))))] ++ ((List.range 15).map (fun j => (z + 2 + 1 + j, (.inl (w.2.2.1 0, 4, .inl fun _ => 0) : va_E))))
theorem ge_X2 (w : WD) (a z : Nat) (h : a ≤ z) : ∀ q ∈ ws_X2 w a z, a ≤ q.1 := by
  intro q hq
  unfold ws_X2 at hq
  rcases List.mem_append.mp hq with hq | hq
  · simp only [List.mem_cons, List.not_mem_nil, or_false] at hq
    rcases hq with rfl | rfl | rfl | rfl
    all_goals (dsimp only; omega)
  · obtain ⟨i, -, rfl⟩ := List.mem_map.mp hq
    dsimp only
    omega
set_option maxRecDepth 100000 in
theorem gc_X2 (l : Launch) (w : WD) (sz a : Nat) : gMet l yX2_init cX2_init 1 { frames := 1, cells := 18, slots := 150, locals := 13 } w sz a (.inr (1, [.null, .int 0, .int 0, .int 0, .null, .null, .int 0])) (ws_X2 w a sz) 18 150 := by
  refine g_of (by decide) rfl (Nat.le_of_ble_eq_true rfl) ?_
  intro p e s m args below meth c hx hb hr hml hown hlk hin hsz hI ls hl
  subst hsz
  have hl : lv_has ls 1 [(0, .ref a)] := hl
  refine lv_aload_n hx hb dX2_init_0 rfl (lv_at hl 0 rfl) ?_
  refine W.objInit hx hb hown (q252 hI.T) (q40 hI.T) (q41 hI.T) rfl (hl.1.trans hml.symm) rfl dX2_init_1 (Nat.le_of_ble_eq_true rfl) (Nat.le_of_ble_eq_true rfl) ?_
  refine W.eq (g2 := F0 m 4 ls []) rfl ?_
  refine lv_aload_n hx hb dX2_init_4 rfl (lv_at hl 0 rfl) ?_
  refine lv_bipush (v := 60) hx hb dX2_init_5 (by decide) ?_
  refine g_newa (ty := .char) (t0 := 2) (N := 60) hx hb hI rfl (q185 hI.T) rfl (fun h => h) rfl (by decide) (by decide) (by decide) (Nat.le_of_ble_eq_true rfl) (Nat.le_of_ble_eq_true rfl) dX2_init_7 (fun H hI => ?_)
  refine g_putF (T := TX2) (N := 7) (k := 0) (ty := .array (.char)) hx hb hI hown rfl (by decide) lyX2 tyX2 tyX2_ok nmX2 (q256 hI.T) hin rfl rfl rfl rfl rfl (Nat.le_of_ble_eq_true rfl) dX2_init_9 (fun H locs hI => ?_)
  refine lv_aload_n hx hb dX2_init_12 rfl (lv_at hl 0 rfl) ?_
  refine lv_bipush (v := 15) hx hb dX2_init_13 (by decide) ?_
  refine g_anew (C := "ShareVault$Word") (t0 := 5) (N := 15) hx hb hI hown (q253 hI.T) (va_AO.use hI.T0.2.2.1) rfl (by decide) (by decide) (by decide) (Nat.le_of_ble_eq_true rfl) (Nat.le_of_ble_eq_true rfl) dX2_init_15 (fun H hI => ?_)
  refine g_putF (T := TX2) (N := 7) (k := 4) (ty := .array (.object "ShareVault$Word")) hx hb hI hown rfl (by decide) lyX2 tyX2 tyX2_ok nmX2 (q262 hI.T) hin rfl rfl rfl rfl rfl (Nat.le_of_ble_eq_true rfl) dX2_init_18 (fun H locs hI => ?_)
  refine lv_aload_n hx hb dX2_init_21 rfl (lv_at hl 0 rfl) ?_
  refine lv_bipush (v := 15) hx hb dX2_init_22 (by decide) ?_
  refine lv_iconst (v := 4) hx hb dX2_init_24 (by decide) ?_
  refine g_multi (tA := 4) (tI := 0) (N := 15) (K := 4) hx hb hI hown (q255 hI.T) (over_moved (Vm.Alike.refl s.vm) hI.T0.2.2.2) (q91 hI.T) rfl rfl (by decide) (by decide) (by decide) (by decide) (by decide) (by decide) (by decide) (Nat.le_of_ble_eq_true rfl) (Nat.le_of_ble_eq_true rfl) dX2_init_25 (fun H hI => ?_)
  refine g_putF (T := TX2) (N := 7) (k := 5) (ty := .array (.array (.int))) hx hb hI hown rfl (by decide) lyX2 tyX2 tyX2_ok nmX2 (q264 hI.T) hin rfl rfl rfl rfl rfl (Nat.le_of_ble_eq_true rfl) dX2_init_29 (fun H locs hI => ?_)
  exact g_ret hx hb hr hlk hI rfl dX2_init_32
theorem df_X4 : ∀ j, j < 3 → defaultValue (tyX4 j) = vp_V [.null, .int 0, .int 0] j := fun j hj => match j, hj with
  | 0, _ => rfl
  | 1, _ => rfl
  | 2, _ => rfl
  | _ + 3, h => absurd h (by omega)
set_option maxRecDepth 100000 in
theorem kc_X4_init : Cond.code yX4_init cX4_init 2 none ∈ lw_tbl := (tin1 (List.mem_of_getElem? (l := tables_1_1) (i := 211) rfl))
section BORN4
variable {p : Program} {l : Launch} {e : Env} {R : Room} {s : State} {m : MethodId} {args : Array Value} {below : List Frame} {meth : Method} {c : Code} {H : Heap} {locs : List Loc} {cells slots : Nat} {Q : State → Prop}
variable {cc : ByteArray} {pc : Nat} {ls : Array Slot} {rest : List Value} {w : WD} {a n : Nat} {e0 : va_E} {ws : va_W}
/-- a place of a new array of references, the first of what is new -/
theorem g_aast (hx : p.tables.exec = Jvm.exec) (hb : c.code = cc) {q t0 N NC ci v : Nat} {cA : ClassId} {C : String} {T : u_T} {f : Nat → Option Nat} {wr : va_W} {fs : List Value} {j : Int32}
    (hI : gI w s H locs a e0 ((q, .inl (cA, N, .inr (.inr (.inr (.inr f))))) :: wr) n) (hq : ∀ x ∈ wr, x.1 ≠ q) (ht : (mTys w)[t0]? = some (cA, .object C)) (hc : mCl[ci]? = some (C, T, NC)) (hv : va_at w.2.1 mCl (v, .inr (ci, fs)) H) (hin : vp_in j N) (hdg : decode cc pc = .ok (.aastore, 1))
    (kk : ∀ (H1 : Heap) (locs1 : List Loc), gI w s H1 locs1 a e0 ((q, .inl (cA, N, .inr (.inr (.inr (.inr fun k => if k = j.toNatClampNeg then some v else f k))))) :: wr) n → W p l e R s m args below meth c H1 locs1 cells slots Q (F0 m (pc + 1) ls rest)) : W p l e R s m args below meth c H locs cells slots Q (F0 m pc ls (.ref v :: .int j :: .ref q :: rest)) := by
  obtain ⟨hK, hT, hlt, hat, hP, hge, hS, hsz⟩ := hI
  have hA : H[q]? = some (vp_cell cA (N, .inr (.inr (.inr (.inr f))))) := hP 0 _ rfl
  have hqge : s.heap.size ≤ q := hge _ List.mem_cons_self
  obtain ⟨r, h1, cv, v1, v2, v3, -⟩ := hv
  obtain rfl : r = (C, T, NC) := Option.some.inj (h1.symm.trans hc)
  obtain ⟨-, hfc, kC, hkC, -⟩ := hK.1 ci _ hc
  obtain ⟨kA, comp, k1, k2, k3, -⟩ := (hK.2 t0 _ ht).2
  cases k3.symm.trans hfc
  have hjl : j.toNatClampNeg < N := Nat.not_le.mp fun z => hin (Or.inr z)
  have h0 : ¬ j < 0 := fun z => hin (Or.inl z)
  have hv2 : cv.cls = w.2.1.1 ci := v2
  have hv3 : cv.vm = .none := v3
  refine W.aast hx hb hA (fun q h => by cases h) (fun h => by cases h) k1 k2 rfl hkC ⟨h0, by show _ < (arrV _ _ _).slots.size; rw [arrV_size]; exact hjl⟩ v1 (fun q h => by rw [hv3] at h; cases h) (by rw [hv2]; exact hkC) (by rw [hv2]; exact va_asg _ _) rfl rfl hdg fun H1 e z oq => ?_
  refine kk H1 _ ⟨hK, hT, hlt, hat.kept (oq a (Nat.ne_of_lt (Nat.lt_of_lt_of_le hlt hqge))), fun k x hx => ?_, fun x hx => ?_, hS.put z oq (Or.inr hqge), z.trans hsz⟩
  · cases k with
    | zero =>
      cases hx
      show H1[q]? = some (vp_cell _ _)
      rw [e]
      show some ((vp_cell _ _).setSlot _ _) = _
      rw [vp_cell_q, vp_cell_q, arrV_store]
      congr 2
      funext i
      by_cases hi : i = j.toNatClampNeg
      · subst hi
        simp [updV, va_rf]
      · simp [updV, hi]
    | succ k =>
      have hx' : wr[k]? = some x := hx
      exact (hP (k + 1) x hx).kept (oq x.1 (hq x (List.mem_of_getElem? hx')))
  · rcases List.mem_cons.mp hx with rfl | h
    · exact hqge
    · exact hge x (List.mem_cons_of_mem _ h)
end BORN4

def st4 (w : WD) (z i : Nat) : va_W := (List.range i).flatMap (fun j => ws_X9 w (z + 1 + 16 * j) (z + 1 + 16 * j + 1))
def fa4 (z i : Nat) : Nat → Option Nat := fun j => if j < i then some (z + 1 + 16 * j) else none
def ws_X4 (w : WD) (a z : Nat) : va_W := (a, .inr (3, [.ref z, .int 0, .int 0])) :: (z, .inl (w.2.2.1 3, 9, .inr (.inr (.inr (.inr (fa4 z 9)))))) :: st4 w z 9
theorem st4_ge (w : WD) (z i : Nat) : ∀ q ∈ st4 w z i, z < q.1 := by
  intro q hq
  obtain ⟨j, -, h⟩ := List.mem_flatMap.mp hq
  have := ge_X9 w _ _ (Nat.le_succ _) q h
  omega
theorem st4_succ (w : WD) (z i : Nat) : st4 w z (i + 1) = st4 w z i ++ ws_X9 w (z + 1 + 16 * i) (z + 1 + 16 * i + 1) := by
  unfold st4
  rw [List.range_succ, List.flatMap_append]
  simp
theorem fa4_succ (z i : Nat) : (fun k => if k = i then some (z + 1 + 16 * i) else fa4 z i k) = fa4 z (i + 1) := by
  funext k
  unfold fa4
  by_cases h : k = i
  · subst h
    simp
  · simp only [h, if_false]
    by_cases h2 : k < i
    · rw [if_pos h2, if_pos (by omega)]
    · rw [if_neg h2, if_neg (by omega)]
theorem ge_X4 (w : WD) (a z : Nat) (h : a ≤ z) : ∀ q ∈ ws_X4 w a z, a ≤ q.1 := by
  intro q hq
  unfold ws_X4 at hq
  rcases List.mem_cons.mp hq with rfl | hq
  · exact Nat.le_refl _
  rcases List.mem_cons.mp hq with rfl | hq
  · exact h
  · have := st4_ge w z 9 q hq
    omega
set_option maxRecDepth 100000 in
theorem gc_X4 (l : Launch) (w : WD) (sz a : Nat) : gMet l yX4_init cX4_init 2 { frames := 3, cells := 145, slots := 981, locals := 53 } w sz a (.inr (3, [.null, .int 0, .int 0])) (ws_X4 w a sz) 145 981 := by
  refine g_of (by decide) rfl (Nat.le_of_ble_eq_true rfl) ?_
  intro p e s m args below meth c hx hb hr hml hown hlk hin hsz hI ls hl
  subst hsz
  have hl : lv_has ls 2 [(0, .ref a)] := hl
  refine lv_aload_n hx hb dX4_init_0 rfl (lv_at hl 0 rfl) ?_
  refine W.objInit hx hb hown (q212 hI.T) (q40 hI.T) (q41 hI.T) rfl (hl.1.trans hml.symm) rfl dX4_init_1 (Nat.le_of_ble_eq_true rfl) (Nat.le_of_ble_eq_true rfl) ?_
  refine W.eq (g2 := F0 m 4 ls []) rfl ?_
  refine lv_aload_n hx hb dX4_init_4 rfl (lv_at hl 0 rfl) ?_
  refine lv_bipush (v := 9) hx hb dX4_init_5 (by decide) ?_
  refine g_anew (C := "ShareVault$State") (t0 := 3) (N := 9) hx hb hI hown (q213 hI.T) (va_AO.use hI.T0.2.1) rfl (by decide) (by decide) (by decide) (Nat.le_of_ble_eq_true rfl) (Nat.le_of_ble_eq_true rfl) dX4_init_7 (fun H hI => ?_)
  refine g_putF (T := TX4) (N := 3) (k := 0) (ty := .array (.object "ShareVault$State")) hx hb hI hown rfl (by decide) lyX4 tyX4 tyX4_ok nmX4 (q216 hI.T) hin rfl rfl rfl rfl rfl (Nat.le_of_ble_eq_true rfl) dX4_init_10 (fun H locs hI => ?_)
  refine lv_iconst (v := 0) hx hb dX4_init_13 (by decide) ?_
  refine lv_istore_n (lv' := [(1, .int (0 : Int32)), (0, .ref a)]) hx hb dX4_init_14 rfl hl (by decide) rfl (fun ls hl => ?_)
  have key : ∀ (d i : Nat), i + d = 9 → ∀ (H : Heap) (locs : List Loc) (ls : Array Slot), lv_has ls 2 [(1, .int (Int32.ofNat i)), (0, .ref a)] → gI w s H locs a (.inr (3, [.ref s.heap.size, .int 0, .int 0])) ((s.heap.size, .inl (w.2.2.1 3, 9, .inr (.inr (.inr (.inr (fa4 s.heap.size i)))))) :: st4 w s.heap.size i) (1 + 16 * i) →
      W p l e { frames := 3, cells := 145, slots := 981, locals := 53 } s m args below meth c H locs (1 + 16 * i) (9 + 108 * i) (MQ below (gQ w s.heap.size a (ws_X4 w a s.heap.size) 145) args s 145 981 (gA a s.heap.size)) (F0 m 15 ls []) := by
    intro d
    induction d with
    | zero =>
      intro i hi H locs ls hl hI
      obtain rfl : i = 9 := by omega
      refine lv_iload_n hx hb dX4_init_15 rfl (lv_at hl 0 rfl) ?_
      refine lv_bipush (v := 9) hx hb dX4_init_16 (by decide) ?_
      refine lv_icmp_ge (tgt := 40) hx hb dX4_init_18 (by decide) (fun c2 => ?_) (fun c2 => absurd (by decide) c2)
      exact g_ret hx hb hr hlk hI rfl dX4_init_40
    | succ d ih =>
      intro i hi H locs ls hl hI
      have hi9 : i < 9 := by omega
      refine lv_iload_n hx hb dX4_init_15 rfl (lv_at hl 0 rfl) ?_
      refine lv_bipush (v := 9) hx hb dX4_init_16 (by decide) ?_
      refine lv_icmp_ge (tgt := 40) hx hb dX4_init_18 (by decide) (fun c2 => absurd c2 ?_) (fun c2 => ?_)
      · have h9 : ∀ i : Nat, i < 9 → ¬ (9 : Int32) ≤ Int32.ofNat i := by decide
        exact h9 i hi9
      refine lv_aload_n hx hb dX4_init_21 rfl (lv_at hl 1 rfl) ?_
      refine va_get (Ts := u_ws RX4 TX4 3) hx hb (fun w hw => hI.T w (lyX4 w hw).1 (lyX4 w hw).2 args) (fun _ h => h) hown hI.K (va_P1 hI.2.2.2.1) 0 rfl rfl 0 (by decide) (q216 hI.T) (fun _ h => h) rfl dX4_init_22 ?_
      refine lv_iload_n hx hb dX4_init_25 rfl (lv_at hl 0 rfl) ?_
      refine g_make (host := "ShareVault") (T := TX9) (N := 5) (ci := 8) (fs := [.null, .null, .null, .null, .int 0]) hx hb hml hI hown rfl lyX9 tyX9 tyX9_ok (q213 hI.T) (q43 hI.T) (q2 hI.T) df_X9 (gc_X9 l w _ _) (ge_X9 w _ _ (Nat.le_succ _)) (Or.inr (g_cn hI.T kc_X9_init (tin1 (List.mem_of_getElem? (l := tables_1_1) (i := 2) rfl)) (q215 hI.T) (by decide +kernel) ⟨rfl, rfl, (Nat.le_of_ble_eq_true rfl), (Nat.le_of_ble_eq_true rfl)⟩)) rfl (q45 hI.T) hl.1 (Nat.le_of_ble_eq_true rfl) (by show _ ≤ 145; omega) (by show _ ≤ 981; omega) dX4_init_26 dX4_init_29 dX4_init_30 (fun H1 locs1 hI1 => ?_)
      have hnew : va_at w.2.1 mCl (s.heap.size + (1 + 16 * i), .inr (8, [.ref (s.heap.size + (1 + 16 * i) + 1), .ref (s.heap.size + (1 + 16 * i) + 1 + 4), .ref (s.heap.size + (1 + 16 * i) + 1 + 5), .ref (s.heap.size + (1 + 16 * i) + 1 + 11), .int 0])) H1 := by
        obtain ⟨k, hk⟩ := List.getElem?_of_mem (List.mem_append_right _ (show _ ∈ ws_X9 w (s.heap.size + (1 + 16 * i)) (s.heap.size + (1 + 16 * i) + 1) from List.mem_append_left _ (List.mem_append_left _ (List.mem_append_left _ (List.mem_append_left _ List.mem_cons_self)))))
        exact hI1.2.2.2.2.1 k _ hk
      have e9 : s.heap.size + (1 + 16 * i) = s.heap.size + 1 + 16 * i := (Nat.add_assoc _ _ _).symm
      rw [e9] at hI1 hnew ⊢
      have hcl : (Int32.ofNat i).toNatClampNeg = i := nI_clamp (n := i) (by omega)
      refine g_aast (q := s.heap.size) (t0 := 3) (ci := 8) (j := Int32.ofNat i) (wr := st4 w s.heap.size i ++ ws_X9 w (s.heap.size + 1 + 16 * i) (s.heap.size + 1 + 16 * i + 1)) hx hb hI1 (fun x hx => ?_) rfl rfl hnew ?_ dX4_init_33 (fun H2 locs2 hI2 => ?_)
      · rcases List.mem_append.mp hx with h | h
        · have := st4_ge w _ _ x h
          omega
        · have := ge_X9 w _ _ (Nat.le_succ _) x h
          omega
      · have h9 : ∀ i : Nat, i < 9 → ¬ (Int32.ofNat i < 0) := by decide
        rintro (h | h)
        · exact h9 i hi9 h
        · rw [hcl] at h
          omega
      rw [hcl, fa4_succ, ← st4_succ] at hI2
      have h9 : ∀ i : Nat, i < 9 → Int32.ofNat i + 1 = Int32.ofNat (i + 1) := by decide
      refine lv_iinc (v := Int32.ofNat (i + 1)) (lv' := [(1, .int (Int32.ofNat (i + 1))), (0, .ref a)]) hx hb dX4_init_34 hl (k := 0) rfl (by rw [← h9 i hi9]; rfl) (by decide) rfl (fun ls hl => ?_)
      refine lv_goto (tgt := 15) hx hb dX4_init_37 (by decide) ?_
      have ec : 1 + 16 * i + 1 + 15 = 1 + 16 * (i + 1) := by omega
      have es : 9 + 108 * i + 5 + 103 = 9 + 108 * (i + 1) := by omega
      rw [ec] at hI2
      rw [ec, es]
      exact ih (i + 1) (by omega) H2 locs2 ls hl hI2
  have e0 : (fun _ => none : Nat → Option Nat) = fa4 s.heap.size 0 := by
    funext j
    simp [fa4]
  have hI0 : gI w s H locs a (.inr (3, [.ref s.heap.size, .int 0, .int 0])) ((s.heap.size, .inl (w.2.2.1 3, 9, .inr (.inr (.inr (.inr (fa4 s.heap.size 0)))))) :: st4 w s.heap.size 0) (1 + 16 * 0) := by
    rw [← e0]
    exact hI
  exact key 9 0 rfl H locs ls hl hI0
theorem df_X11 : ∀ j, j < 12 → defaultValue (tyX11 j) = vp_V [.null, .null, .null, .int 0, .null, .null, .null, .null, .int 0, .int 0, .int 0, .int 0] j := fun j hj => match j, hj with
  | 0, _ => rfl
  | 1, _ => rfl
  | 2, _ => rfl
  | 3, _ => rfl
  | 4, _ => rfl
  | 5, _ => rfl
  | 6, _ => rfl
  | 7, _ => rfl
  | 8, _ => rfl
  | 9, _ => rfl
  | 10, _ => rfl
  | 11, _ => rfl
  | _ + 12, h => absurd h (by omega)
set_option maxRecDepth 100000 in
theorem kc_X11_init : Cond.code yX11_init cX11_init 1 none ∈ lw_tbl := (tin1 (List.mem_of_getElem? (l := tables_1_1) (i := 38) rfl))
def ws_X11 (w : WD) (a z : Nat) : va_W := [(a, .inr (9, [.ref (z), .ref (z + 16), .ref (z + 162), .int 0, .ref (z + 178), .ref (z + 184), .ref (z + 191), .ref (z + 210), .int (-1), .int 0, .int (-1), .int (-1)]))] ++ (ws_X9 w (z) (z + 1)) ++ (ws_X4 w (z + 16) (z + 17)) ++ (ws_X9 w (z + 162) (z + 163)) ++ (ws_X1 w (z + 178) (z + 179)) ++ (ws_X8 w (z + 184) (z + 185)) ++ (ws_X2 w (z + 191) (z + 192)) ++ (ws_X7 w (z + 210) (z + 211))
theorem ge_X11 (w : WD) (a z : Nat) (h : a ≤ z) : ∀ q ∈ ws_X11 w a z, a ≤ q.1 := by
  intro q hq
  unfold ws_X11 at hq
  rcases List.mem_append.mp hq with hq | hq
  · rcases List.mem_append.mp hq with hq | hq
    · rcases List.mem_append.mp hq with hq | hq
      · rcases List.mem_append.mp hq with hq | hq
        · rcases List.mem_append.mp hq with hq | hq
          · rcases List.mem_append.mp hq with hq | hq
            · rcases List.mem_append.mp hq with hq | hq
              · simp only [List.mem_cons, List.not_mem_nil, or_false] at hq
                subst hq
                all_goals (dsimp only; omega)
              · exact Nat.le_trans (by omega) (ge_X9 w _ _ (by omega) q hq)
            · exact Nat.le_trans (by omega) (ge_X4 w _ _ (by omega) q hq)
          · exact Nat.le_trans (by omega) (ge_X9 w _ _ (by omega) q hq)
        · exact Nat.le_trans (by omega) (ge_X1 w _ _ (by omega) q hq)
      · exact Nat.le_trans (by omega) (ge_X8 w _ _ (by omega) q hq)
    · exact Nat.le_trans (by omega) (ge_X2 w _ _ (by omega) q hq)
  · exact Nat.le_trans (by omega) (ge_X7 w _ _ (by omega) q hq)
set_option maxRecDepth 100000 in
theorem gc_X11 (l : Launch) (w : WD) (sz a : Nat) : gMet l yX11_init cX11_init 1 { frames := 4, cells := 212, slots := 1621, locals := 74 } w sz a (.inr (9, [.null, .null, .null, .int 0, .null, .null, .null, .null, .int 0, .int 0, .int 0, .int 0])) (ws_X11 w a sz) 212 1621 := by
  refine g_of (by decide) rfl (Nat.le_of_ble_eq_true rfl) ?_
  intro p e s m args below meth c hx hb hr hml hown hlk hin hsz hI ls hl
  subst hsz
  have hl : lv_has ls 1 [(0, .ref a)] := hl
  refine lv_aload_n hx hb dX11_init_0 rfl (lv_at hl 0 rfl) ?_
  refine W.objInit hx hb hown (q39 hI.T) (q40 hI.T) (q41 hI.T) rfl (hl.1.trans hml.symm) rfl dX11_init_1 (Nat.le_of_ble_eq_true rfl) (Nat.le_of_ble_eq_true rfl) ?_
  refine W.eq (g2 := F0 m 4 ls []) rfl ?_
  refine lv_aload_n hx hb dX11_init_4 rfl (lv_at hl 0 rfl) ?_
  refine g_make (host := "ShareVault") (T := TX9) (N := 5) (ci := 8) (fs := [.null, .null, .null, .null, .int 0]) hx hb hml hI hown rfl lyX9 tyX9 tyX9_ok (q42 hI.T) (q43 hI.T) (q2 hI.T) df_X9 (gc_X9 l w _ _) (ge_X9 w _ _ (Nat.le_succ _)) (Or.inr (g_cn hI.T kc_X9_init (tin1 (List.mem_of_getElem? (l := tables_1_1) (i := 2) rfl)) (q44 hI.T) (by decide +kernel) ⟨rfl, rfl, (Nat.le_of_ble_eq_true rfl), (Nat.le_of_ble_eq_true rfl)⟩)) rfl (q45 hI.T) hl.1 (Nat.le_of_ble_eq_true rfl) (Nat.le_of_ble_eq_true rfl) (Nat.le_of_ble_eq_true rfl) dX11_init_5 dX11_init_8 dX11_init_9 (fun H locs hI => ?_)
  refine g_putF (T := TX11) (N := 12) (k := 0) (ty := .object "ShareVault$State") hx hb hI hown rfl (by decide) lyX11 tyX11 tyX11_ok nmX11 (q294 hI.T) hin rfl rfl rfl rfl rfl (Nat.le_of_ble_eq_true rfl) dX11_init_12 (fun H locs hI => ?_)
  refine lv_aload_n hx hb dX11_init_15 rfl (lv_at hl 0 rfl) ?_
  refine g_make (host := "ShareVault") (T := TX4) (N := 3) (ci := 3) (fs := [.null, .int 0, .int 0]) hx hb hml hI hown rfl lyX4 tyX4 tyX4_ok (q207 hI.T) (q208 hI.T) (q7 hI.T) df_X4 (gc_X4 l w _ _) (ge_X4 w _ _ (Nat.le_succ _)) (Or.inl (m_callB (n := 0) hI.T kc_X4_init (tin1 (List.mem_of_getElem? (l := tables_1_1) (i := 7) rfl)) (q209 hI.T) (by decide +kernel) ⟨rfl, rfl, (Nat.le_of_ble_eq_true rfl), (Nat.le_of_ble_eq_true rfl)⟩)) rfl (q210 hI.T) hl.1 (Nat.le_of_ble_eq_true rfl) (Nat.le_of_ble_eq_true rfl) (Nat.le_of_ble_eq_true rfl) dX11_init_16 dX11_init_19 dX11_init_20 (fun H locs hI => ?_)
  refine g_putF (T := TX11) (N := 12) (k := 1) (ty := .object "ShareVault$History") hx hb hI hown rfl (by decide) lyX11 tyX11 tyX11_ok nmX11 (q295 hI.T) hin rfl rfl rfl rfl rfl (Nat.le_of_ble_eq_true rfl) dX11_init_23 (fun H locs hI => ?_)
  refine lv_aload_n hx hb dX11_init_26 rfl (lv_at hl 0 rfl) ?_
  refine g_make (host := "ShareVault") (T := TX9) (N := 5) (ci := 8) (fs := [.null, .null, .null, .null, .int 0]) hx hb hml hI hown rfl lyX9 tyX9 tyX9_ok (q42 hI.T) (q43 hI.T) (q2 hI.T) df_X9 (gc_X9 l w _ _) (ge_X9 w _ _ (Nat.le_succ _)) (Or.inr (g_cn hI.T kc_X9_init (tin1 (List.mem_of_getElem? (l := tables_1_1) (i := 2) rfl)) (q44 hI.T) (by decide +kernel) ⟨rfl, rfl, (Nat.le_of_ble_eq_true rfl), (Nat.le_of_ble_eq_true rfl)⟩)) rfl (q45 hI.T) hl.1 (Nat.le_of_ble_eq_true rfl) (Nat.le_of_ble_eq_true rfl) (Nat.le_of_ble_eq_true rfl) dX11_init_27 dX11_init_30 dX11_init_31 (fun H locs hI => ?_)
  refine g_putF (T := TX11) (N := 12) (k := 2) (ty := .object "ShareVault$State") hx hb hI hown rfl (by decide) lyX11 tyX11 tyX11_ok nmX11 (q296 hI.T) hin rfl rfl rfl rfl rfl (Nat.le_of_ble_eq_true rfl) dX11_init_34 (fun H locs hI => ?_)
  refine lv_aload_n hx hb dX11_init_37 rfl (lv_at hl 0 rfl) ?_
  refine g_make (host := "ShareVault") (T := TX1) (N := 8) (ci := 0) (fs := [.int 0, .null, .null, .int 0, .int 0, .null, .null, .null]) hx hb hml hI hown rfl lyX1 tyX1 tyX1_ok (q227 hI.T) (q119 hI.T) (q5 hI.T) df_X1 (gc_X1 l w _ _) (ge_X1 w _ _ (Nat.le_succ _)) (Or.inr (g_cn hI.T kc_X1_init (tin1 (List.mem_of_getElem? (l := tables_1_1) (i := 5) rfl)) (q228 hI.T) (by decide +kernel) ⟨rfl, rfl, (Nat.le_of_ble_eq_true rfl), (Nat.le_of_ble_eq_true rfl)⟩)) rfl (q121 hI.T) hl.1 (Nat.le_of_ble_eq_true rfl) (Nat.le_of_ble_eq_true rfl) (Nat.le_of_ble_eq_true rfl) dX11_init_38 dX11_init_41 dX11_init_42 (fun H locs hI => ?_)
  refine g_putF (T := TX11) (N := 12) (k := 4) (ty := .object "ShareVault$Building") hx hb hI hown rfl (by decide) lyX11 tyX11 tyX11_ok nmX11 (q298 hI.T) hin rfl rfl rfl rfl rfl (Nat.le_of_ble_eq_true rfl) dX11_init_45 (fun H locs hI => ?_)
  refine lv_aload_n hx hb dX11_init_48 rfl (lv_at hl 0 rfl) ?_
  refine g_make (host := "ShareVault") (T := TX8) (N := 3) (ci := 7) (fs := [.null, .null, .null]) hx hb hml hI hown rfl lyX8 tyX8 tyX8_ok (q229 hI.T) (q230 hI.T) (q8 hI.T) df_X8 (gc_X8 l w _ _) (ge_X8 w _ _ (Nat.le_succ _)) (Or.inr (g_cn hI.T kc_X8_init (tin1 (List.mem_of_getElem? (l := tables_1_1) (i := 8) rfl)) (q231 hI.T) (by decide +kernel) ⟨rfl, rfl, (Nat.le_of_ble_eq_true rfl), (Nat.le_of_ble_eq_true rfl)⟩)) rfl (q232 hI.T) hl.1 (Nat.le_of_ble_eq_true rfl) (Nat.le_of_ble_eq_true rfl) (Nat.le_of_ble_eq_true rfl) dX11_init_49 dX11_init_52 dX11_init_53 (fun H locs hI => ?_)
  refine g_putF (T := TX11) (N := 12) (k := 5) (ty := .object "ShareVault$Solver") hx hb hI hown rfl (by decide) lyX11 tyX11 tyX11_ok nmX11 (q299 hI.T) hin rfl rfl rfl rfl rfl (Nat.le_of_ble_eq_true rfl) dX11_init_56 (fun H locs hI => ?_)
  refine lv_aload_n hx hb dX11_init_59 rfl (lv_at hl 0 rfl) ?_
  refine g_make (host := "ShareVault") (T := TX2) (N := 7) (ci := 1) (fs := [.null, .int 0, .int 0, .int 0, .null, .null, .int 0]) hx hb hml hI hown rfl lyX2 tyX2 tyX2_ok (q247 hI.T) (q248 hI.T) (q9 hI.T) df_X2 (gc_X2 l w _ _) (ge_X2 w _ _ (Nat.le_succ _)) (Or.inr (g_cn hI.T kc_X2_init (tin1 (List.mem_of_getElem? (l := tables_1_1) (i := 9) rfl)) (q249 hI.T) (by decide +kernel) ⟨rfl, rfl, (Nat.le_of_ble_eq_true rfl), (Nat.le_of_ble_eq_true rfl)⟩)) rfl (q250 hI.T) hl.1 (Nat.le_of_ble_eq_true rfl) (Nat.le_of_ble_eq_true rfl) (Nat.le_of_ble_eq_true rfl) dX11_init_60 dX11_init_63 dX11_init_64 (fun H locs hI => ?_)
  refine g_putF (T := TX11) (N := 12) (k := 6) (ty := .object "ShareVault$Commands") hx hb hI hown rfl (by decide) lyX11 tyX11 tyX11_ok nmX11 (q300 hI.T) hin rfl rfl rfl rfl rfl (Nat.le_of_ble_eq_true rfl) dX11_init_67 (fun H locs hI => ?_)
  refine lv_aload_n hx hb dX11_init_70 rfl (lv_at hl 0 rfl) ?_
  refine g_make (host := "ShareVault") (T := TX7) (N := 2) (ci := 6) (fs := [.null, .int 0]) hx hb hml hI hown rfl lyX7 tyX7 tyX7_ok (q282 hI.T) (q283 hI.T) (q10 hI.T) df_X7 (gc_X7 l w _ _) (ge_X7 w _ _ (Nat.le_succ _)) (Or.inr (g_cn hI.T kc_X7_init (tin1 (List.mem_of_getElem? (l := tables_1_1) (i := 10) rfl)) (q284 hI.T) (by decide +kernel) ⟨rfl, rfl, (Nat.le_of_ble_eq_true rfl), (Nat.le_of_ble_eq_true rfl)⟩)) rfl (q285 hI.T) hl.1 (Nat.le_of_ble_eq_true rfl) (Nat.le_of_ble_eq_true rfl) (Nat.le_of_ble_eq_true rfl) dX11_init_71 dX11_init_74 dX11_init_75 (fun H locs hI => ?_)
  refine g_putF (T := TX11) (N := 12) (k := 7) (ty := .object "ShareVault$Output") hx hb hI hown rfl (by decide) lyX11 tyX11 tyX11_ok nmX11 (q301 hI.T) hin rfl rfl rfl rfl rfl (Nat.le_of_ble_eq_true rfl) dX11_init_78 (fun H locs hI => ?_)
  refine lv_aload_n hx hb dX11_init_81 rfl (lv_at hl 0 rfl) ?_
  refine lv_iconst (v := (-1)) hx hb dX11_init_82 (by decide) ?_
  refine g_put (T := TX11) (N := 12) (k := 8) (ty := .int) hx hb hI hown rfl (by decide) lyX11 tyX11 tyX11_ok nmX11 (q302 hI.T) rfl rfl rfl rfl (Nat.le_of_ble_eq_true rfl) dX11_init_83 (fun H locs hI => ?_)
  refine lv_aload_n hx hb dX11_init_86 rfl (lv_at hl 0 rfl) ?_
  refine lv_iconst (v := (-1)) hx hb dX11_init_87 (by decide) ?_
  refine g_put (T := TX11) (N := 12) (k := 10) (ty := .int) hx hb hI hown rfl (by decide) lyX11 tyX11 tyX11_ok nmX11 (q304 hI.T) rfl rfl rfl rfl (Nat.le_of_ble_eq_true rfl) dX11_init_88 (fun H locs hI => ?_)
  refine lv_aload_n hx hb dX11_init_91 rfl (lv_at hl 0 rfl) ?_
  refine lv_iconst (v := (-1)) hx hb dX11_init_92 (by decide) ?_
  refine g_put (T := TX11) (N := 12) (k := 11) (ty := .int) hx hb hI hown rfl (by decide) lyX11 tyX11 tyX11_ok nmX11 (q305 hI.T) rfl rfl rfl rfl (Nat.le_of_ble_eq_true rfl) dX11_init_93 (fun H locs hI => ?_)
  exact g_ret hx hb hr hlk hI rfl dX11_init_96
