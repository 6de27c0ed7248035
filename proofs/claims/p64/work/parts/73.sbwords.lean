set_option maxRecDepth 100000 in
theorem q1 {s : State} {a : Array Value} (h : mT s) : (Jvm.Cond.initialized "ShareVault").before a s = true := h _ (tin1 (List.mem_of_getElem? (l := tables_1_1) (i := 1) rfl)) rfl a
set_option maxRecDepth 100000 in
theorem q17 {s : State} {a : Array Value} (h : mT s) : (Jvm.Cond.initialized "java/lang/String").before a s = true := h _ (tin1 (List.mem_of_getElem? (l := tables_1_1) (i := 17) rfl)) rfl a
set_option maxRecDepth 100000 in
theorem q22 {s : State} {a : Array Value} (h : mT s) : (Jvm.Cond.initialized "java/lang/AbstractStringBuilder").before a s = true := h _ (tin1 (List.mem_of_getElem? (l := tables_1_1) (i := 22) rfl)) rfl a
set_option maxRecDepth 100000 in
theorem q23 {s : State} {a : Array Value} (h : mT s) : (Jvm.Cond.initialized "java/lang/StringBuilder").before a s = true := h _ (tin1 (List.mem_of_getElem? (l := tables_1_1) (i := 23) rfl)) rfl a
set_option maxRecDepth 100000 in
theorem q34 {s : State} {a : Array Value} (h : mT s) : (Jvm.Cond.classLink "ShareVaultLaw" (15 : Nat) "ShareVault").before a s = true := h _ (tin1 (List.mem_of_getElem? (l := tables_1_1) (i := 34) rfl)) rfl a
set_option maxRecDepth 100000 in
theorem q35 {s : State} {a : Array Value} (h : mT s) : (Jvm.Cond.instantiable "ShareVault" (12 : Nat)).before a s = true := h _ (tin1 (List.mem_of_getElem? (l := tables_1_1) (i := 35) rfl)) rfl a
set_option maxRecDepth 100000 in
theorem q36 {s : State} {a : Array Value} (h : mT s) : (Jvm.Cond.methodLink "ShareVaultLaw" (195 : Nat) ({ cls := "ShareVault", name := "<init>", desc := "()V" } : Jvm.MethodName)).before a s = true := h _ (tin1 (List.mem_of_getElem? (l := tables_1_1) (i := 36) rfl)) rfl a
set_option maxRecDepth 100000 in
theorem q37 {s : State} {a : Array Value} (h : mT s) : (Jvm.Cond.instanceMethod ({ cls := "ShareVault", name := "<init>", desc := "()V" } : Jvm.MethodName)).before a s = true := h _ (tin1 (List.mem_of_getElem? (l := tables_1_1) (i := 37) rfl)) rfl a
set_option maxRecDepth 100000 in
theorem q461 {s : State} {a : Array Value} (h : mT s) : (Jvm.Cond.arrayClass Jvm.ClassFile.FieldType.byte).before a s = true := h _ (tin2 (List.mem_of_getElem? (l := tables_1_2) (i := 221) rfl)) rfl a
set_option maxRecDepth 100000 in
theorem q484 {s : State} {a : Array Value} (h : mT s) : (Jvm.Cond.instantiable "java/lang/String" (4 : Nat)).before a s = true := h _ (tin3 (List.mem_of_getElem? (l := tables_1_3) (i := 4) rfl)) rfl a
set_option maxRecDepth 100000 in
theorem q967 {s : State} {a : Array Value} (h : mT s) : (Jvm.Cond.classLink "ShareVaultLaw" (311 : Nat) "java/lang/StringBuilder").before a s = true := h _ (tin5 (List.mem_of_getElem? (l := tables_1_5) (i := 7) rfl)) rfl a
set_option maxRecDepth 100000 in
theorem q968 {s : State} {a : Array Value} (h : mT s) : (Jvm.Cond.instantiable "java/lang/StringBuilder" (4 : Nat)).before a s = true := h _ (tin5 (List.mem_of_getElem? (l := tables_1_5) (i := 8) rfl)) rfl a
set_option maxRecDepth 100000 in
theorem q969 {s : State} {a : Array Value} (h : mT s) : (Jvm.Cond.methodLink "ShareVaultLaw" (313 : Nat) ({ cls := "java/lang/StringBuilder", name := "<init>", desc := "()V" } : Jvm.MethodName)).before a s = true := h _ (tin5 (List.mem_of_getElem? (l := tables_1_5) (i := 9) rfl)) rfl a
set_option maxRecDepth 100000 in
theorem q970 {s : State} {a : Array Value} (h : mT s) : (Jvm.Cond.instanceMethod ({ cls := "java/lang/StringBuilder", name := "<init>", desc := "()V" } : Jvm.MethodName)).before a s = true := h _ (tin5 (List.mem_of_getElem? (l := tables_1_5) (i := 10) rfl)) rfl a
set_option maxRecDepth 100000 in
theorem q972 {s : State} {a : Array Value} (h : mT s) : (Jvm.Cond.methodLink "java/lang/StringBuilder" (1 : Nat) ({ cls := "java/lang/AbstractStringBuilder", name := "<init>", desc := "(I)V" } : Jvm.MethodName)).before a s = true := h _ (tin5 (List.mem_of_getElem? (l := tables_1_5) (i := 12) rfl)) rfl a
set_option maxRecDepth 100000 in
theorem q973 {s : State} {a : Array Value} (h : mT s) : (Jvm.Cond.instanceMethod ({ cls := "java/lang/AbstractStringBuilder", name := "<init>", desc := "(I)V" } : Jvm.MethodName)).before a s = true := h _ (tin5 (List.mem_of_getElem? (l := tables_1_5) (i := 13) rfl)) rfl a
set_option maxRecDepth 100000 in
theorem q975 {s : State} {a : Array Value} (h : mT s) : (Jvm.Cond.methodLink "java/lang/AbstractStringBuilder" (3 : Nat) ({ cls := "java/lang/Object", name := "<init>", desc := "()V" } : Jvm.MethodName)).before a s = true := h _ (tin5 (List.mem_of_getElem? (l := tables_1_5) (i := 15) rfl)) rfl a
set_option maxRecDepth 100000 in
theorem q976 {s : State} {a : Array Value} (h : mT s) : (Jvm.Cond.fieldLink "java/lang/AbstractStringBuilder" (18 : Nat) "java/lang/String" "COMPACT_STRINGS" "Z").before a s = true := h _ (tin5 (List.mem_of_getElem? (l := tables_1_5) (i := 16) rfl)) rfl a
set_option maxRecDepth 100000 in
theorem q985 {s : State} {a : Array Value} (h : mT s) : (Jvm.Cond.fieldLink "java/lang/AbstractStringBuilder" (15 : Nat) "java/lang/AbstractStringBuilder" "value" "[B").before a s = true := h _ (tin5 (List.mem_of_getElem? (l := tables_1_5) (i := 25) rfl)) rfl a
set_option maxRecDepth 100000 in
theorem q986 {s : State} {a : Array Value} (h : mT s) : (Jvm.Cond.fieldLink "java/lang/AbstractStringBuilder" (22 : Nat) "java/lang/AbstractStringBuilder" "coder" "B").before a s = true := h _ (tin5 (List.mem_of_getElem? (l := tables_1_5) (i := 26) rfl)) rfl a
set_option maxRecDepth 100000 in
theorem q988 {s : State} {a : Array Value} (h : mT s) : (Jvm.Cond.fieldLink "java/lang/AbstractStringBuilder" (79 : Nat) "java/lang/AbstractStringBuilder" "count" "I").before a s = true := h _ (tin5 (List.mem_of_getElem? (l := tables_1_5) (i := 28) rfl)) rfl a
set_option maxRecDepth 100000 in
theorem q997 {s : State} {a : Array Value} (h : mT s) : (Jvm.Cond.superclass "java/lang/StringBuilder" "java/lang/AbstractStringBuilder").before a s = true := h _ (tin5 (List.mem_of_getElem? (l := tables_1_5) (i := 37) rfl)) rfl a
set_option maxRecDepth 100000 in
theorem q999 {s : State} {a : Array Value} (h : mT s) : (Jvm.Cond.methodLink "ShareVaultLaw" (316 : Nat) ({ cls := "java/lang/StringBuilder", name := "append", desc := "(Ljava/lang/String;)Ljava/lang/StringBuilder;" } : Jvm.MethodName)).before a s = true := h _ (tin5 (List.mem_of_getElem? (l := tables_1_5) (i := 39) rfl)) rfl a
set_option maxRecDepth 100000 in
theorem q1000 {s : State} {a : Array Value} (h : mT s) : (Jvm.Cond.instanceMethod ({ cls := "java/lang/StringBuilder", name := "append", desc := "(Ljava/lang/String;)Ljava/lang/StringBuilder;" } : Jvm.MethodName)).before a s = true := h _ (tin5 (List.mem_of_getElem? (l := tables_1_5) (i := 40) rfl)) rfl a
set_option maxRecDepth 100000 in
theorem q1001 {s : State} {a : Array Value} (h : mT s) : (Jvm.Cond.selects "java/lang/StringBuilder" ({ cls := "java/lang/StringBuilder", name := "append", desc := "(Ljava/lang/String;)Ljava/lang/StringBuilder;" } : Jvm.MethodName) ({ cls := "java/lang/StringBuilder", name := "append", desc := "(Ljava/lang/String;)Ljava/lang/StringBuilder;" } : Jvm.MethodName)).before a s = true := h _ (tin5 (List.mem_of_getElem? (l := tables_1_5) (i := 41) rfl)) rfl a
set_option maxRecDepth 100000 in
theorem q1003 {s : State} {a : Array Value} (h : mT s) : (Jvm.Cond.methodLink "java/lang/StringBuilder" (29 : Nat) ({ cls := "java/lang/AbstractStringBuilder", name := "append", desc := "(Ljava/lang/String;)Ljava/lang/AbstractStringBuilder;" } : Jvm.MethodName)).before a s = true := h _ (tin5 (List.mem_of_getElem? (l := tables_1_5) (i := 43) rfl)) rfl a
set_option maxRecDepth 100000 in
theorem q1004 {s : State} {a : Array Value} (h : mT s) : (Jvm.Cond.instanceMethod ({ cls := "java/lang/AbstractStringBuilder", name := "append", desc := "(Ljava/lang/String;)Ljava/lang/AbstractStringBuilder;" } : Jvm.MethodName)).before a s = true := h _ (tin5 (List.mem_of_getElem? (l := tables_1_5) (i := 44) rfl)) rfl a
set_option maxRecDepth 100000 in
theorem q1005 {s : State} {a : Array Value} (h : mT s) : (Jvm.Cond.code ({ cls := "java/lang/AbstractStringBuilder", name := "append", desc := "(Ljava/lang/String;)Ljava/lang/AbstractStringBuilder;" } : Jvm.MethodName) prog_16_method_22_code (3 : Nat) (Option.some (Jvm.ClassFile.FieldType.object "java/lang/AbstractStringBuilder"))).before a s = true := h _ (tin5 (List.mem_of_getElem? (l := tables_1_5) (i := 45) rfl)) rfl a
set_option maxRecDepth 100000 in
theorem q1010 {s : State} {a : Array Value} (h : mT s) : (Jvm.Cond.methodLink "java/lang/AbstractStringBuilder" (100 : Nat) ({ cls := "java/lang/AbstractStringBuilder", name := "ensureCapacityInternal", desc := "(I)V" } : Jvm.MethodName)).before a s = true := h _ (tin5 (List.mem_of_getElem? (l := tables_1_5) (i := 50) rfl)) rfl a
set_option maxRecDepth 100000 in
theorem q1011 {s : State} {a : Array Value} (h : mT s) : (Jvm.Cond.privateMethod ({ cls := "java/lang/AbstractStringBuilder", name := "ensureCapacityInternal", desc := "(I)V" } : Jvm.MethodName)).before a s = true := h _ (tin5 (List.mem_of_getElem? (l := tables_1_5) (i := 51) rfl)) rfl a
set_option maxRecDepth 100000 in
theorem q1012 {s : State} {a : Array Value} (h : mT s) : (Jvm.Cond.instanceMethod ({ cls := "java/lang/AbstractStringBuilder", name := "ensureCapacityInternal", desc := "(I)V" } : Jvm.MethodName)).before a s = true := h _ (tin5 (List.mem_of_getElem? (l := tables_1_5) (i := 52) rfl)) rfl a
set_option maxRecDepth 100000 in
theorem q1039 {s : State} {a : Array Value} (h : mT s) : (Jvm.Cond.methodLink "java/util/Arrays" (304 : Nat) ({ cls := "java/lang/Math", name := "min", desc := "(II)I" } : Jvm.MethodName)).before a s = true := h _ (tin5 (List.mem_of_getElem? (l := tables_1_5) (i := 79) rfl)) rfl a
set_option maxRecDepth 100000 in
theorem q1040 {s : State} {a : Array Value} (h : mT s) : (Jvm.Cond.methodLink "java/util/Arrays" (150 : Nat) ({ cls := "java/lang/System", name := "arraycopy", desc := "(Ljava/lang/Object;ILjava/lang/Object;II)V" } : Jvm.MethodName)).before a s = true := h _ (tin5 (List.mem_of_getElem? (l := tables_1_5) (i := 80) rfl)) rfl a
set_option maxRecDepth 100000 in
theorem q1041 {s : State} {a : Array Value} (h : mT s) : (Jvm.Cond.methodLink "java/lang/AbstractStringBuilder" (83 : Nat) ({ cls := "java/lang/AbstractStringBuilder", name := "isLatin1", desc := "()Z" } : Jvm.MethodName)).before a s = true := h _ (tin5 (List.mem_of_getElem? (l := tables_1_5) (i := 81) rfl)) rfl a
set_option maxRecDepth 100000 in
theorem q1042 {s : State} {a : Array Value} (h : mT s) : (Jvm.Cond.instanceMethod ({ cls := "java/lang/AbstractStringBuilder", name := "isLatin1", desc := "()Z" } : Jvm.MethodName)).before a s = true := h _ (tin5 (List.mem_of_getElem? (l := tables_1_5) (i := 82) rfl)) rfl a
set_option maxRecDepth 100000 in
theorem q1044 {s : State} {a : Array Value} (h : mT s) : (Jvm.Cond.selects "java/lang/StringBuilder" ({ cls := "java/lang/AbstractStringBuilder", name := "isLatin1", desc := "()Z" } : Jvm.MethodName) ({ cls := "java/lang/AbstractStringBuilder", name := "isLatin1", desc := "()Z" } : Jvm.MethodName)).before a s = true := h _ (tin5 (List.mem_of_getElem? (l := tables_1_5) (i := 84) rfl)) rfl a
set_option maxRecDepth 100000 in
theorem q1072 {s : State} {a : Array Value} (h : mT s) : (Jvm.Cond.methodLink "java/lang/AbstractStringBuilder" (32 : Nat) ({ cls := "java/lang/String", name := "length", desc := "()I" } : Jvm.MethodName)).before a s = true := h _ (tin5 (List.mem_of_getElem? (l := tables_1_5) (i := 112) rfl)) rfl a
set_option maxRecDepth 100000 in
theorem q1081 {s : State} {a : Array Value} (h : mT s) : (Jvm.Cond.methodLink "java/lang/AbstractStringBuilder" (208 : Nat) ({ cls := "java/lang/AbstractStringBuilder", name := "putStringAt", desc := "(ILjava/lang/String;)V" } : Jvm.MethodName)).before a s = true := h _ (tin5 (List.mem_of_getElem? (l := tables_1_5) (i := 121) rfl)) rfl a
set_option maxRecDepth 100000 in
theorem q1082 {s : State} {a : Array Value} (h : mT s) : (Jvm.Cond.privateMethod ({ cls := "java/lang/AbstractStringBuilder", name := "putStringAt", desc := "(ILjava/lang/String;)V" } : Jvm.MethodName)).before a s = true := h _ (tin5 (List.mem_of_getElem? (l := tables_1_5) (i := 122) rfl)) rfl a
set_option maxRecDepth 100000 in
theorem q1083 {s : State} {a : Array Value} (h : mT s) : (Jvm.Cond.instanceMethod ({ cls := "java/lang/AbstractStringBuilder", name := "putStringAt", desc := "(ILjava/lang/String;)V" } : Jvm.MethodName)).before a s = true := h _ (tin5 (List.mem_of_getElem? (l := tables_1_5) (i := 123) rfl)) rfl a
set_option maxRecDepth 100000 in
theorem q1085 {s : State} {a : Array Value} (h : mT s) : (Jvm.Cond.methodLink "java/lang/AbstractStringBuilder" (397 : Nat) ({ cls := "java/lang/AbstractStringBuilder", name := "inflateIfNeededFor", desc := "(Ljava/lang/String;)V" } : Jvm.MethodName)).before a s = true := h _ (tin5 (List.mem_of_getElem? (l := tables_1_5) (i := 125) rfl)) rfl a
set_option maxRecDepth 100000 in
theorem q1086 {s : State} {a : Array Value} (h : mT s) : (Jvm.Cond.privateMethod ({ cls := "java/lang/AbstractStringBuilder", name := "inflateIfNeededFor", desc := "(Ljava/lang/String;)V" } : Jvm.MethodName)).before a s = true := h _ (tin5 (List.mem_of_getElem? (l := tables_1_5) (i := 126) rfl)) rfl a
set_option maxRecDepth 100000 in
theorem q1087 {s : State} {a : Array Value} (h : mT s) : (Jvm.Cond.instanceMethod ({ cls := "java/lang/AbstractStringBuilder", name := "inflateIfNeededFor", desc := "(Ljava/lang/String;)V" } : Jvm.MethodName)).before a s = true := h _ (tin5 (List.mem_of_getElem? (l := tables_1_5) (i := 127) rfl)) rfl a
set_option maxRecDepth 100000 in
theorem q1089 {s : State} {a : Array Value} (h : mT s) : (Jvm.Cond.methodLink "java/lang/AbstractStringBuilder" (40 : Nat) ({ cls := "java/lang/String", name := "coder", desc := "()B" } : Jvm.MethodName)).before a s = true := h _ (tin5 (List.mem_of_getElem? (l := tables_1_5) (i := 129) rfl)) rfl a
set_option maxRecDepth 100000 in
theorem q1109 {s : State} {a : Array Value} (h : mT s) : (Jvm.Cond.methodLink "java/lang/AbstractStringBuilder" (399 : Nat) ({ cls := "java/lang/String", name := "getBytes", desc := "([BIB)V" } : Jvm.MethodName)).before a s = true := h _ (tin5 (List.mem_of_getElem? (l := tables_1_5) (i := 149) rfl)) rfl a
set_option maxRecDepth 100000 in
theorem q1110 {s : State} {a : Array Value} (h : mT s) : (Jvm.Cond.instanceMethod ({ cls := "java/lang/String", name := "getBytes", desc := "([BIB)V" } : Jvm.MethodName)).before a s = true := h _ (tin5 (List.mem_of_getElem? (l := tables_1_5) (i := 150) rfl)) rfl a
set_option maxRecDepth 100000 in
theorem q1111 {s : State} {a : Array Value} (h : mT s) : (Jvm.Cond.selects "java/lang/String" ({ cls := "java/lang/String", name := "getBytes", desc := "([BIB)V" } : Jvm.MethodName) ({ cls := "java/lang/String", name := "getBytes", desc := "([BIB)V" } : Jvm.MethodName)).before a s = true := h _ (tin5 (List.mem_of_getElem? (l := tables_1_5) (i := 151) rfl)) rfl a
set_option maxRecDepth 100000 in
theorem q1113 {s : State} {a : Array Value} (h : mT s) : (Jvm.Cond.methodLink "java/lang/String" (212 : Nat) ({ cls := "java/lang/System", name := "arraycopy", desc := "(Ljava/lang/Object;ILjava/lang/Object;II)V" } : Jvm.MethodName)).before a s = true := h _ (tin5 (List.mem_of_getElem? (l := tables_1_5) (i := 153) rfl)) rfl a
set_option maxRecDepth 100000 in
theorem q1115 {s : State} {a : Array Value} (h : mT s) : (Jvm.Cond.methodLink "ShareVaultLaw" (320 : Nat) ({ cls := "java/lang/StringBuilder", name := "append", desc := "(I)Ljava/lang/StringBuilder;" } : Jvm.MethodName)).before a s = true := h _ (tin5 (List.mem_of_getElem? (l := tables_1_5) (i := 155) rfl)) rfl a
set_option maxRecDepth 100000 in
theorem q1116 {s : State} {a : Array Value} (h : mT s) : (Jvm.Cond.instanceMethod ({ cls := "java/lang/StringBuilder", name := "append", desc := "(I)Ljava/lang/StringBuilder;" } : Jvm.MethodName)).before a s = true := h _ (tin5 (List.mem_of_getElem? (l := tables_1_5) (i := 156) rfl)) rfl a
set_option maxRecDepth 100000 in
theorem q1117 {s : State} {a : Array Value} (h : mT s) : (Jvm.Cond.selects "java/lang/StringBuilder" ({ cls := "java/lang/StringBuilder", name := "append", desc := "(I)Ljava/lang/StringBuilder;" } : Jvm.MethodName) ({ cls := "java/lang/StringBuilder", name := "append", desc := "(I)Ljava/lang/StringBuilder;" } : Jvm.MethodName)).before a s = true := h _ (tin5 (List.mem_of_getElem? (l := tables_1_5) (i := 157) rfl)) rfl a
set_option maxRecDepth 100000 in
theorem q1119 {s : State} {a : Array Value} (h : mT s) : (Jvm.Cond.methodLink "java/lang/StringBuilder" (53 : Nat) ({ cls := "java/lang/AbstractStringBuilder", name := "append", desc := "(I)Ljava/lang/AbstractStringBuilder;" } : Jvm.MethodName)).before a s = true := h _ (tin5 (List.mem_of_getElem? (l := tables_1_5) (i := 159) rfl)) rfl a
set_option maxRecDepth 100000 in
theorem q1120 {s : State} {a : Array Value} (h : mT s) : (Jvm.Cond.instanceMethod ({ cls := "java/lang/AbstractStringBuilder", name := "append", desc := "(I)Ljava/lang/AbstractStringBuilder;" } : Jvm.MethodName)).before a s = true := h _ (tin5 (List.mem_of_getElem? (l := tables_1_5) (i := 160) rfl)) rfl a
set_option maxRecDepth 100000 in
theorem q1121 {s : State} {a : Array Value} (h : mT s) : (Jvm.Cond.code ({ cls := "java/lang/AbstractStringBuilder", name := "append", desc := "(I)Ljava/lang/AbstractStringBuilder;" } : Jvm.MethodName) prog_16_method_32_code (4 : Nat) (Option.some (Jvm.ClassFile.FieldType.object "java/lang/AbstractStringBuilder"))).before a s = true := h _ (tin5 (List.mem_of_getElem? (l := tables_1_5) (i := 161) rfl)) rfl a
set_option maxRecDepth 100000 in
theorem q1122 {s : State} {a : Array Value} (h : mT s) : (Jvm.Cond.methodLink "java/lang/AbstractStringBuilder" (245 : Nat) ({ cls := "java/lang/Integer", name := "stringSize", desc := "(I)I" } : Jvm.MethodName)).before a s = true := h _ (tin5 (List.mem_of_getElem? (l := tables_1_5) (i := 162) rfl)) rfl a
set_option maxRecDepth 100000 in
theorem q1123 {s : State} {a : Array Value} (h : mT s) : (Jvm.Cond.static ({ cls := "java/lang/Integer", name := "stringSize", desc := "(I)I" } : Jvm.MethodName)).before a s = true := h _ (tin5 (List.mem_of_getElem? (l := tables_1_5) (i := 163) rfl)) rfl a
set_option maxRecDepth 100000 in
theorem q1125 {s : State} {a : Array Value} (h : mT s) : (Jvm.Cond.methodLink "java/lang/AbstractStringBuilder" (248 : Nat) ({ cls := "java/lang/Integer", name := "getChars", desc := "(II[B)I" } : Jvm.MethodName)).before a s = true := h _ (tin5 (List.mem_of_getElem? (l := tables_1_5) (i := 165) rfl)) rfl a
set_option maxRecDepth 100000 in
theorem q1126 {s : State} {a : Array Value} (h : mT s) : (Jvm.Cond.static ({ cls := "java/lang/Integer", name := "getChars", desc := "(II[B)I" } : Jvm.MethodName)).before a s = true := h _ (tin5 (List.mem_of_getElem? (l := tables_1_5) (i := 166) rfl)) rfl a
set_option maxRecDepth 100000 in
theorem q1128 {s : State} {a : Array Value} (h : mT s) : (Jvm.Cond.fieldLink "java/lang/Integer" (83 : Nat) "java/lang/Integer" "DigitOnes" "[B").before a s = true := h _ (tin5 (List.mem_of_getElem? (l := tables_1_5) (i := 168) rfl)) rfl a
set_option maxRecDepth 100000 in
theorem q1142 {s : State} {a : Array Value} (h : mT s) : (Jvm.Cond.methodLink "ShareVaultLaw" (327 : Nat) ({ cls := "java/lang/StringBuilder", name := "toString", desc := "()Ljava/lang/String;" } : Jvm.MethodName)).before a s = true := h _ (tin5 (List.mem_of_getElem? (l := tables_1_5) (i := 182) rfl)) rfl a
set_option maxRecDepth 100000 in
theorem q1143 {s : State} {a : Array Value} (h : mT s) : (Jvm.Cond.instanceMethod ({ cls := "java/lang/StringBuilder", name := "toString", desc := "()Ljava/lang/String;" } : Jvm.MethodName)).before a s = true := h _ (tin5 (List.mem_of_getElem? (l := tables_1_5) (i := 183) rfl)) rfl a
set_option maxRecDepth 100000 in
theorem q1144 {s : State} {a : Array Value} (h : mT s) : (Jvm.Cond.selects "java/lang/StringBuilder" ({ cls := "java/lang/StringBuilder", name := "toString", desc := "()Ljava/lang/String;" } : Jvm.MethodName) ({ cls := "java/lang/StringBuilder", name := "toString", desc := "()Ljava/lang/String;" } : Jvm.MethodName)).before a s = true := h _ (tin5 (List.mem_of_getElem? (l := tables_1_5) (i := 184) rfl)) rfl a
set_option maxRecDepth 100000 in
theorem q1146 {s : State} {a : Array Value} (h : mT s) : (Jvm.Cond.classLink "java/lang/StringBuilder" (18 : Nat) "java/lang/String").before a s = true := h _ (tin5 (List.mem_of_getElem? (l := tables_1_5) (i := 186) rfl)) rfl a
set_option maxRecDepth 100000 in
theorem q1147 {s : State} {a : Array Value} (h : mT s) : (Jvm.Cond.methodLink "java/lang/StringBuilder" (137 : Nat) ({ cls := "java/lang/String", name := "<init>", desc := "(Ljava/lang/StringBuilder;)V" } : Jvm.MethodName)).before a s = true := h _ (tin5 (List.mem_of_getElem? (l := tables_1_5) (i := 187) rfl)) rfl a
set_option maxRecDepth 100000 in
theorem q1148 {s : State} {a : Array Value} (h : mT s) : (Jvm.Cond.instanceMethod ({ cls := "java/lang/String", name := "<init>", desc := "(Ljava/lang/StringBuilder;)V" } : Jvm.MethodName)).before a s = true := h _ (tin5 (List.mem_of_getElem? (l := tables_1_5) (i := 188) rfl)) rfl a
set_option maxRecDepth 100000 in
theorem q1150 {s : State} {a : Array Value} (h : mT s) : (Jvm.Cond.methodLink "java/lang/String" (489 : Nat) ({ cls := "java/lang/String", name := "<init>", desc := "(Ljava/lang/AbstractStringBuilder;Ljava/lang/Void;)V" } : Jvm.MethodName)).before a s = true := h _ (tin5 (List.mem_of_getElem? (l := tables_1_5) (i := 190) rfl)) rfl a
set_option maxRecDepth 100000 in
theorem q1151 {s : State} {a : Array Value} (h : mT s) : (Jvm.Cond.instanceMethod ({ cls := "java/lang/String", name := "<init>", desc := "(Ljava/lang/AbstractStringBuilder;Ljava/lang/Void;)V" } : Jvm.MethodName)).before a s = true := h _ (tin5 (List.mem_of_getElem? (l := tables_1_5) (i := 191) rfl)) rfl a
set_option maxRecDepth 100000 in
theorem q1153 {s : State} {a : Array Value} (h : mT s) : (Jvm.Cond.methodLink "java/lang/String" (1 : Nat) ({ cls := "java/lang/Object", name := "<init>", desc := "()V" } : Jvm.MethodName)).before a s = true := h _ (tin5 (List.mem_of_getElem? (l := tables_1_5) (i := 193) rfl)) rfl a
set_option maxRecDepth 100000 in
theorem q1154 {s : State} {a : Array Value} (h : mT s) : (Jvm.Cond.methodLink "java/lang/String" (552 : Nat) ({ cls := "java/lang/AbstractStringBuilder", name := "getValue", desc := "()[B" } : Jvm.MethodName)).before a s = true := h _ (tin5 (List.mem_of_getElem? (l := tables_1_5) (i := 194) rfl)) rfl a
set_option maxRecDepth 100000 in
theorem q1155 {s : State} {a : Array Value} (h : mT s) : (Jvm.Cond.instanceMethod ({ cls := "java/lang/AbstractStringBuilder", name := "getValue", desc := "()[B" } : Jvm.MethodName)).before a s = true := h _ (tin5 (List.mem_of_getElem? (l := tables_1_5) (i := 195) rfl)) rfl a
set_option maxRecDepth 100000 in
theorem q1157 {s : State} {a : Array Value} (h : mT s) : (Jvm.Cond.selects "java/lang/StringBuilder" ({ cls := "java/lang/AbstractStringBuilder", name := "getValue", desc := "()[B" } : Jvm.MethodName) ({ cls := "java/lang/AbstractStringBuilder", name := "getValue", desc := "()[B" } : Jvm.MethodName)).before a s = true := h _ (tin5 (List.mem_of_getElem? (l := tables_1_5) (i := 197) rfl)) rfl a
set_option maxRecDepth 100000 in
theorem q1159 {s : State} {a : Array Value} (h : mT s) : (Jvm.Cond.methodLink "java/lang/String" (549 : Nat) ({ cls := "java/lang/AbstractStringBuilder", name := "length", desc := "()I" } : Jvm.MethodName)).before a s = true := h _ (tin5 (List.mem_of_getElem? (l := tables_1_5) (i := 199) rfl)) rfl a
set_option maxRecDepth 100000 in
theorem q1160 {s : State} {a : Array Value} (h : mT s) : (Jvm.Cond.instanceMethod ({ cls := "java/lang/AbstractStringBuilder", name := "length", desc := "()I" } : Jvm.MethodName)).before a s = true := h _ (tin5 (List.mem_of_getElem? (l := tables_1_5) (i := 200) rfl)) rfl a
set_option maxRecDepth 100000 in
theorem q1161 {s : State} {a : Array Value} (h : mT s) : (Jvm.Cond.sameMethod "java/lang/AbstractStringBuilder" "java/lang/AbstractStringBuilder" "length" "()I").before a s = true := h _ (tin5 (List.mem_of_getElem? (l := tables_1_5) (i := 201) rfl)) rfl a
set_option maxRecDepth 100000 in
theorem q1162 {s : State} {a : Array Value} (h : mT s) : (Jvm.Cond.selects "java/lang/StringBuilder" ({ cls := "java/lang/AbstractStringBuilder", name := "length", desc := "()I" } : Jvm.MethodName) ({ cls := "java/lang/StringBuilder", name := "length", desc := "()I" } : Jvm.MethodName)).before a s = true := h _ (tin5 (List.mem_of_getElem? (l := tables_1_5) (i := 202) rfl)) rfl a
set_option maxRecDepth 100000 in
theorem q1163 {s : State} {a : Array Value} (h : mT s) : (Jvm.Cond.instanceMethod ({ cls := "java/lang/StringBuilder", name := "length", desc := "()I" } : Jvm.MethodName)).before a s = true := h _ (tin5 (List.mem_of_getElem? (l := tables_1_5) (i := 203) rfl)) rfl a
set_option maxRecDepth 100000 in
theorem q1164 {s : State} {a : Array Value} (h : mT s) : (Jvm.Cond.code ({ cls := "java/lang/StringBuilder", name := "length", desc := "()I" } : Jvm.MethodName) prog_33_method_93_code (1 : Nat) (Option.some Jvm.ClassFile.FieldType.int)).before a s = true := h _ (tin5 (List.mem_of_getElem? (l := tables_1_5) (i := 204) rfl)) rfl a
set_option maxRecDepth 100000 in
theorem q1165 {s : State} {a : Array Value} (h : mT s) : (Jvm.Cond.methodLink "java/lang/StringBuilder" (343 : Nat) ({ cls := "java/lang/AbstractStringBuilder", name := "length", desc := "()I" } : Jvm.MethodName)).before a s = true := h _ (tin5 (List.mem_of_getElem? (l := tables_1_5) (i := 205) rfl)) rfl a
set_option maxRecDepth 100000 in
theorem q1166 {s : State} {a : Array Value} (h : mT s) : (Jvm.Cond.code ({ cls := "java/lang/AbstractStringBuilder", name := "length", desc := "()I" } : Jvm.MethodName) prog_16_method_6_code (1 : Nat) (Option.some Jvm.ClassFile.FieldType.int)).before a s = true := h _ (tin5 (List.mem_of_getElem? (l := tables_1_5) (i := 206) rfl)) rfl a
set_option maxRecDepth 100000 in
theorem q1167 {s : State} {a : Array Value} (h : mT s) : (Jvm.Cond.methodLink "java/lang/String" (1047 : Nat) ({ cls := "java/lang/AbstractStringBuilder", name := "isLatin1", desc := "()Z" } : Jvm.MethodName)).before a s = true := h _ (tin5 (List.mem_of_getElem? (l := tables_1_5) (i := 207) rfl)) rfl a
set_option maxRecDepth 100000 in
theorem q1168 {s : State} {a : Array Value} (h : mT s) : (Jvm.Cond.methodLink "java/lang/String" (54 : Nat) ({ cls := "java/util/Arrays", name := "copyOfRange", desc := "([BII)[B" } : Jvm.MethodName)).before a s = true := h _ (tin5 (List.mem_of_getElem? (l := tables_1_5) (i := 208) rfl)) rfl a
set_option maxRecDepth 100000 in
theorem q1169 {s : State} {a : Array Value} (h : mT s) : (Jvm.Cond.static ({ cls := "java/util/Arrays", name := "copyOfRange", desc := "([BII)[B" } : Jvm.MethodName)).before a s = true := h _ (tin5 (List.mem_of_getElem? (l := tables_1_5) (i := 209) rfl)) rfl a
set_option maxRecDepth 100000 in
theorem q1171 {s : State} {a : Array Value} (h : mT s) : (Jvm.Cond.methodLink "java/util/Arrays" (339 : Nat) ({ cls := "java/util/Arrays", name := "copyOfRangeByte", desc := "([BII)[B" } : Jvm.MethodName)).before a s = true := h _ (tin5 (List.mem_of_getElem? (l := tables_1_5) (i := 211) rfl)) rfl a
set_option maxRecDepth 100000 in
theorem q1172 {s : State} {a : Array Value} (h : mT s) : (Jvm.Cond.static ({ cls := "java/util/Arrays", name := "copyOfRangeByte", desc := "([BII)[B" } : Jvm.MethodName)).before a s = true := h _ (tin5 (List.mem_of_getElem? (l := tables_1_5) (i := 212) rfl)) rfl a
set_option maxRecDepth 100000 in
theorem q1174 {s : State} {a : Array Value} (h : mT s) : (Jvm.Cond.methodLink "java/util/Arrays" (343 : Nat) ({ cls := "java/util/Arrays", name := "checkLength", desc := "(II)V" } : Jvm.MethodName)).before a s = true := h _ (tin5 (List.mem_of_getElem? (l := tables_1_5) (i := 214) rfl)) rfl a
set_option maxRecDepth 100000 in
theorem q1175 {s : State} {a : Array Value} (h : mT s) : (Jvm.Cond.static ({ cls := "java/util/Arrays", name := "checkLength", desc := "(II)V" } : Jvm.MethodName)).before a s = true := h _ (tin5 (List.mem_of_getElem? (l := tables_1_5) (i := 215) rfl)) rfl a
set_option maxRecDepth 100000 in
theorem q1208 {s : State} {a : Array Value} (h : mT s) : (Jvm.Cond.methodLink "ShareVaultLaw" (337 : Nat) ({ cls := "ShareVaultLaw", name := "runs", desc := "(LShareVault;Ljava/lang/String;)I" } : Jvm.MethodName)).before a s = true := h _ (tin6 (List.mem_of_getElem? (l := tables_1_6) (i := 8) rfl)) rfl a
set_option maxRecDepth 100000 in
theorem q1209 {s : State} {a : Array Value} (h : mT s) : (Jvm.Cond.static ({ cls := "ShareVaultLaw", name := "runs", desc := "(LShareVault;Ljava/lang/String;)I" } : Jvm.MethodName)).before a s = true := h _ (tin6 (List.mem_of_getElem? (l := tables_1_6) (i := 9) rfl)) rfl a
set_option maxRecDepth 100000 in
theorem q1610 {s : State} {a : Array Value} (h : mT s) : (Jvm.Cond.arrayClass Jvm.ClassFile.FieldType.long).before a s = true := h _ (tin7 (List.mem_of_getElem? (l := tables_1_7) (i := 170) rfl)) rfl a
set_option maxRecDepth 100000 in
theorem q1612 {s : State} {a : Array Value} (h : mT s) : (Jvm.Cond.sameMethod "java/lang/AbstractStringBuilder" "java/lang/AbstractStringBuilder" "append" "(Ljava/lang/String;)Ljava/lang/AbstractStringBuilder;").before a s = true := h _ (tin7 (List.mem_of_getElem? (l := tables_1_7) (i := 172) rfl)) rfl a
set_option maxRecDepth 100000 in
theorem q1614 {s : State} {a : Array Value} (h : mT s) : (Jvm.Cond.sameMethod "java/lang/AbstractStringBuilder" "java/lang/AbstractStringBuilder" "ensureCapacityInternal" "(I)V").before a s = true := h _ (tin7 (List.mem_of_getElem? (l := tables_1_7) (i := 174) rfl)) rfl a
set_option maxRecDepth 100000 in
theorem q1616 {s : State} {a : Array Value} (h : mT s) : (Jvm.Cond.sameMethod "java/lang/AbstractStringBuilder" "java/lang/AbstractStringBuilder" "putStringAt" "(ILjava/lang/String;)V").before a s = true := h _ (tin7 (List.mem_of_getElem? (l := tables_1_7) (i := 176) rfl)) rfl a
set_option maxRecDepth 100000 in
theorem q1617 {s : State} {a : Array Value} (h : mT s) : (Jvm.Cond.sameMethod "java/lang/AbstractStringBuilder" "java/lang/AbstractStringBuilder" "inflateIfNeededFor" "(Ljava/lang/String;)V").before a s = true := h _ (tin7 (List.mem_of_getElem? (l := tables_1_7) (i := 177) rfl)) rfl a
set_option maxRecDepth 100000 in
theorem q1619 {s : State} {a : Array Value} (h : mT s) : (Jvm.Cond.sameMethod "java/lang/AbstractStringBuilder" "java/lang/AbstractStringBuilder" "append" "(I)Ljava/lang/AbstractStringBuilder;").before a s = true := h _ (tin7 (List.mem_of_getElem? (l := tables_1_7) (i := 179) rfl)) rfl a
set_option maxRecDepth 100000 in
theorem kc_J5_init_d00df : Cond.code yJ5_init_d00df cJ5_init_d00df 2 (none) ∈ lw_tbl := tin5 (List.mem_of_getElem? (l := tables_1_5) (i := 14) rfl)
set_option maxRecDepth 100000 in
theorem ki_J5_init_d00df : Cond.initialized yJ5_init_d00df.cls ∈ lw_tbl := tin1 (List.mem_of_getElem? (l := tables_1_1) (i := 22) rfl)
set_option maxRecDepth 100000 in
theorem kc_J5_append_c97b9 : Cond.code yJ5_append_c97b9 cJ5_append_c97b9 4 (some (.object "java/lang/AbstractStringBuilder")) ∈ lw_tbl := tin5 (List.mem_of_getElem? (l := tables_1_5) (i := 161) rfl)
set_option maxRecDepth 100000 in
theorem ki_J5_append_c97b9 : Cond.initialized yJ5_append_c97b9.cls ∈ lw_tbl := tin1 (List.mem_of_getElem? (l := tables_1_1) (i := 22) rfl)
set_option maxRecDepth 100000 in
theorem kc_J5_append_cf1ce : Cond.code yJ5_append_cf1ce cJ5_append_cf1ce 3 (some (.object "java/lang/AbstractStringBuilder")) ∈ lw_tbl := tin5 (List.mem_of_getElem? (l := tables_1_5) (i := 45) rfl)
set_option maxRecDepth 100000 in
theorem ki_J5_append_cf1ce : Cond.initialized yJ5_append_cf1ce.cls ∈ lw_tbl := tin1 (List.mem_of_getElem? (l := tables_1_1) (i := 22) rfl)
set_option maxRecDepth 100000 in
theorem kc_J5_ensureCapacityInternal_d00df : Cond.code yJ5_ensureCapacityInternal_d00df cJ5_ensureCapacityInternal_d00df 3 (none) ∈ lw_tbl := tin5 (List.mem_of_getElem? (l := tables_1_5) (i := 53) rfl)
set_option maxRecDepth 100000 in
theorem ki_J5_ensureCapacityInternal_d00df : Cond.initialized yJ5_ensureCapacityInternal_d00df.cls ∈ lw_tbl := tin1 (List.mem_of_getElem? (l := tables_1_1) (i := 22) rfl)
set_option maxRecDepth 100000 in
theorem kc_J5_getValue_6d5f1 : Cond.code yJ5_getValue_6d5f1 cJ5_getValue_6d5f1 1 (some (.array Jvm.ClassFile.FieldType.byte)) ∈ lw_tbl := tin5 (List.mem_of_getElem? (l := tables_1_5) (i := 198) rfl)
set_option maxRecDepth 100000 in
theorem ki_J5_getValue_6d5f1 : Cond.initialized yJ5_getValue_6d5f1.cls ∈ lw_tbl := tin1 (List.mem_of_getElem? (l := tables_1_1) (i := 22) rfl)
set_option maxRecDepth 100000 in
theorem kc_J5_inflateIfNeededFor_a7421 : Cond.code yJ5_inflateIfNeededFor_a7421 cJ5_inflateIfNeededFor_a7421 2 (none) ∈ lw_tbl := tin5 (List.mem_of_getElem? (l := tables_1_5) (i := 128) rfl)
set_option maxRecDepth 100000 in
theorem ki_J5_inflateIfNeededFor_a7421 : Cond.initialized yJ5_inflateIfNeededFor_a7421.cls ∈ lw_tbl := tin1 (List.mem_of_getElem? (l := tables_1_1) (i := 22) rfl)
set_option maxRecDepth 100000 in
theorem kc_J5_isLatin1_aae02 : Cond.code yJ5_isLatin1_aae02 cJ5_isLatin1_aae02 1 (some .boolean) ∈ lw_tbl := tin5 (List.mem_of_getElem? (l := tables_1_5) (i := 85) rfl)
set_option maxRecDepth 100000 in
theorem ki_J5_isLatin1_aae02 : Cond.initialized yJ5_isLatin1_aae02.cls ∈ lw_tbl := tin1 (List.mem_of_getElem? (l := tables_1_1) (i := 22) rfl)
set_option maxRecDepth 100000 in
theorem kc_J5_length_8abf5 : Cond.code yJ5_length_8abf5 cJ5_length_8abf5 1 (some .int) ∈ lw_tbl := tin5 (List.mem_of_getElem? (l := tables_1_5) (i := 206) rfl)
set_option maxRecDepth 100000 in
theorem ki_J5_length_8abf5 : Cond.initialized yJ5_length_8abf5.cls ∈ lw_tbl := tin1 (List.mem_of_getElem? (l := tables_1_1) (i := 22) rfl)
set_option maxRecDepth 100000 in
theorem kc_J5_putStringAt_47b60 : Cond.code yJ5_putStringAt_47b60 cJ5_putStringAt_47b60 3 (none) ∈ lw_tbl := tin5 (List.mem_of_getElem? (l := tables_1_5) (i := 124) rfl)
set_option maxRecDepth 100000 in
theorem ki_J5_putStringAt_47b60 : Cond.initialized yJ5_putStringAt_47b60.cls ∈ lw_tbl := tin1 (List.mem_of_getElem? (l := tables_1_1) (i := 22) rfl)
set_option maxRecDepth 100000 in
theorem kc_J6_getChars_ba4f3 : Cond.code yJ6_getChars_ba4f3 cJ6_getChars_ba4f3 7 (some .int) ∈ lw_tbl := tin5 (List.mem_of_getElem? (l := tables_1_5) (i := 167) rfl)
set_option maxRecDepth 100000 in
theorem ki_J6_getChars_ba4f3 : Cond.initialized yJ6_getChars_ba4f3.cls ∈ lw_tbl := tin1 (List.mem_of_getElem? (l := tables_1_1) (i := 30) rfl)
set_option maxRecDepth 100000 in
theorem kc_J6_stringSize_0f7a4 : Cond.code yJ6_stringSize_0f7a4 cJ6_stringSize_0f7a4 4 (some .int) ∈ lw_tbl := tin5 (List.mem_of_getElem? (l := tables_1_5) (i := 164) rfl)
set_option maxRecDepth 100000 in
theorem ki_J6_stringSize_0f7a4 : Cond.initialized yJ6_stringSize_0f7a4.cls ∈ lw_tbl := tin1 (List.mem_of_getElem? (l := tables_1_1) (i := 30) rfl)
set_option maxRecDepth 100000 in
theorem kc_J0_init_db425 : Cond.code yJ0_init_db425 cJ0_init_db425 5 (none) ∈ lw_tbl := tin5 (List.mem_of_getElem? (l := tables_1_5) (i := 192) rfl)
set_option maxRecDepth 100000 in
theorem ki_J0_init_db425 : Cond.initialized yJ0_init_db425.cls ∈ lw_tbl := tin1 (List.mem_of_getElem? (l := tables_1_1) (i := 17) rfl)
set_option maxRecDepth 100000 in
theorem kc_J0_init_81219 : Cond.code yJ0_init_81219 cJ0_init_81219 2 (none) ∈ lw_tbl := tin5 (List.mem_of_getElem? (l := tables_1_5) (i := 189) rfl)
set_option maxRecDepth 100000 in
theorem ki_J0_init_81219 : Cond.initialized yJ0_init_81219.cls ∈ lw_tbl := tin1 (List.mem_of_getElem? (l := tables_1_1) (i := 17) rfl)
set_option maxRecDepth 100000 in
theorem kc_J0_getBytes_840e7 : Cond.code yJ0_getBytes_840e7 cJ0_getBytes_840e7 4 (none) ∈ lw_tbl := tin5 (List.mem_of_getElem? (l := tables_1_5) (i := 152) rfl)
set_option maxRecDepth 100000 in
theorem ki_J0_getBytes_840e7 : Cond.initialized yJ0_getBytes_840e7.cls ∈ lw_tbl := tin1 (List.mem_of_getElem? (l := tables_1_1) (i := 17) rfl)
set_option maxRecDepth 100000 in
theorem kc_J4_init_da8c8 : Cond.code yJ4_init_da8c8 cJ4_init_da8c8 1 (none) ∈ lw_tbl := tin5 (List.mem_of_getElem? (l := tables_1_5) (i := 11) rfl)
set_option maxRecDepth 100000 in
theorem ki_J4_init_da8c8 : Cond.initialized yJ4_init_da8c8.cls ∈ lw_tbl := tin1 (List.mem_of_getElem? (l := tables_1_1) (i := 23) rfl)
set_option maxRecDepth 100000 in
theorem kc_J4_append_bf812 : Cond.code yJ4_append_bf812 cJ4_append_bf812 2 (some (.object "java/lang/StringBuilder")) ∈ lw_tbl := tin5 (List.mem_of_getElem? (l := tables_1_5) (i := 158) rfl)
set_option maxRecDepth 100000 in
theorem ki_J4_append_bf812 : Cond.initialized yJ4_append_bf812.cls ∈ lw_tbl := tin1 (List.mem_of_getElem? (l := tables_1_1) (i := 23) rfl)
set_option maxRecDepth 100000 in
theorem kc_J4_append_15ec4 : Cond.code yJ4_append_15ec4 cJ4_append_15ec4 2 (some (.object "java/lang/StringBuilder")) ∈ lw_tbl := tin5 (List.mem_of_getElem? (l := tables_1_5) (i := 42) rfl)
set_option maxRecDepth 100000 in
theorem ki_J4_append_15ec4 : Cond.initialized yJ4_append_15ec4.cls ∈ lw_tbl := tin1 (List.mem_of_getElem? (l := tables_1_1) (i := 23) rfl)
set_option maxRecDepth 100000 in
theorem kc_J4_toString_0e30d : Cond.code yJ4_toString_0e30d cJ4_toString_0e30d 1 (some (.object "java/lang/String")) ∈ lw_tbl := tin5 (List.mem_of_getElem? (l := tables_1_5) (i := 185) rfl)
set_option maxRecDepth 100000 in
theorem ki_J4_toString_0e30d : Cond.initialized yJ4_toString_0e30d.cls ∈ lw_tbl := tin1 (List.mem_of_getElem? (l := tables_1_1) (i := 23) rfl)
set_option maxRecDepth 100000 in
theorem kc_J7_checkLength_df160 : Cond.code yJ7_checkLength_df160 cJ7_checkLength_df160 2 (none) ∈ lw_tbl := tin5 (List.mem_of_getElem? (l := tables_1_5) (i := 216) rfl)
set_option maxRecDepth 100000 in
theorem ki_J7_checkLength_df160 : Cond.initialized yJ7_checkLength_df160.cls ∈ lw_tbl := tin1 (List.mem_of_getElem? (l := tables_1_1) (i := 26) rfl)
set_option maxRecDepth 100000 in
theorem kc_J7_copyOfRange_39247 : Cond.code yJ7_copyOfRange_39247 cJ7_copyOfRange_39247 3 (some (.array Jvm.ClassFile.FieldType.byte)) ∈ lw_tbl := tin5 (List.mem_of_getElem? (l := tables_1_5) (i := 210) rfl)
set_option maxRecDepth 100000 in
theorem ki_J7_copyOfRange_39247 : Cond.initialized yJ7_copyOfRange_39247.cls ∈ lw_tbl := tin1 (List.mem_of_getElem? (l := tables_1_1) (i := 26) rfl)
set_option maxRecDepth 100000 in
theorem kc_J7_copyOfRangeByte_39247 : Cond.code yJ7_copyOfRangeByte_39247 cJ7_copyOfRangeByte_39247 5 (some (.array Jvm.ClassFile.FieldType.byte)) ∈ lw_tbl := tin5 (List.mem_of_getElem? (l := tables_1_5) (i := 213) rfl)
set_option maxRecDepth 100000 in
theorem ki_J7_copyOfRangeByte_39247 : Cond.initialized yJ7_copyOfRangeByte_39247.cls ∈ lw_tbl := tin1 (List.mem_of_getElem? (l := tables_1_1) (i := 26) rfl)
