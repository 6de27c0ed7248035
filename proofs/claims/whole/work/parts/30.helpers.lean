set_option maxRecDepth 100000 in
theorem q562 {s : State} {a : Array Value} (h : mT s) : (Jvm.Cond.classLink "ShareVaultLaw" (13 : Nat) "java/lang/UnsupportedOperationException").before a s = true := h _ (tin3 (List.mem_of_getElem? (l := tables_1_3) (i := 82) rfl)) rfl a
set_option maxRecDepth 100000 in
theorem q563 {s : State} {a : Array Value} (h : mT s) : (Jvm.Cond.methodLink "ShareVaultLaw" (7 : Nat) ({ cls := "ShareVault", name := "addHolder", desc := "()I" } : Jvm.MethodName)).before a s = true := h _ (tin3 (List.mem_of_getElem? (l := tables_1_3) (i := 83) rfl)) rfl a
set_option maxRecDepth 100000 in
theorem q564 {s : State} {a : Array Value} (h : mT s) : (Jvm.Cond.instanceMethod ({ cls := "ShareVault", name := "addHolder", desc := "()I" } : Jvm.MethodName)).before a s = true := h _ (tin3 (List.mem_of_getElem? (l := tables_1_3) (i := 84) rfl)) rfl a
set_option maxRecDepth 100000 in
theorem q565 {s : State} {a : Array Value} (h : mT s) : (Jvm.Cond.selects "ShareVault" ({ cls := "ShareVault", name := "addHolder", desc := "()I" } : Jvm.MethodName) ({ cls := "ShareVault", name := "addHolder", desc := "()I" } : Jvm.MethodName)).before a s = true := h _ (tin3 (List.mem_of_getElem? (l := tables_1_3) (i := 85) rfl)) rfl a
set_option maxRecDepth 100000 in
theorem q591 {s : State} {a : Array Value} (h : mT s) : (Jvm.Cond.castable "java/lang/IndexOutOfBoundsException" "java/lang/IndexOutOfBoundsException").before a s = true := h _ (tin3 (List.mem_of_getElem? (l := tables_1_3) (i := 111) rfl)) rfl a
set_option maxRecDepth 100000 in
theorem q663 {s : State} {a : Array Value} (h : mT s) : (Jvm.Cond.castable "java/lang/IllegalArgumentException" "java/lang/IllegalArgumentException").before a s = true := h _ (tin3 (List.mem_of_getElem? (l := tables_1_3) (i := 183) rfl)) rfl a
set_option maxRecDepth 100000 in
theorem q691 {s : State} {a : Array Value} (h : mT s) : (Jvm.Cond.castable "java/lang/UnsupportedOperationException" "java/lang/UnsupportedOperationException").before a s = true := h _ (tin3 (List.mem_of_getElem? (l := tables_1_3) (i := 211) rfl)) rfl a
set_option maxRecDepth 100000 in
theorem q713 {s : State} {a : Array Value} (h : mT s) : (Jvm.Cond.classLink "ShareVaultLaw" (19 : Nat) "java/lang/IllegalArgumentException").before a s = true := h _ (tin3 (List.mem_of_getElem? (l := tables_1_3) (i := 233) rfl)) rfl a
set_option maxRecDepth 100000 in
theorem q714 {s : State} {a : Array Value} (h : mT s) : (Jvm.Cond.methodLink "ShareVaultLaw" (15 : Nat) ({ cls := "ShareVault", name := "seal", desc := "(IIII)I" } : Jvm.MethodName)).before a s = true := h _ (tin3 (List.mem_of_getElem? (l := tables_1_3) (i := 234) rfl)) rfl a
set_option maxRecDepth 100000 in
theorem q715 {s : State} {a : Array Value} (h : mT s) : (Jvm.Cond.instanceMethod ({ cls := "ShareVault", name := "seal", desc := "(IIII)I" } : Jvm.MethodName)).before a s = true := h _ (tin3 (List.mem_of_getElem? (l := tables_1_3) (i := 235) rfl)) rfl a
set_option maxRecDepth 100000 in
theorem q716 {s : State} {a : Array Value} (h : mT s) : (Jvm.Cond.selects "ShareVault" ({ cls := "ShareVault", name := "seal", desc := "(IIII)I" } : Jvm.MethodName) ({ cls := "ShareVault", name := "seal", desc := "(IIII)I" } : Jvm.MethodName)).before a s = true := h _ (tin3 (List.mem_of_getElem? (l := tables_1_3) (i := 236) rfl)) rfl a
set_option maxRecDepth 100000 in
theorem q736 {s : State} {a : Array Value} (h : mT s) : (Jvm.Cond.classLink "ShareVaultLaw" (25 : Nat) "java/lang/IndexOutOfBoundsException").before a s = true := h _ (tin4 (List.mem_of_getElem? (l := tables_1_4) (i := 16) rfl)) rfl a
set_option maxRecDepth 100000 in
theorem q757 {s : State} {a : Array Value} (h : mT s) : (Jvm.Cond.methodLink "ShareVaultLaw" (21 : Nat) ({ cls := "ShareVault", name := "setShare", desc := "(II)I" } : Jvm.MethodName)).before a s = true := h _ (tin4 (List.mem_of_getElem? (l := tables_1_4) (i := 37) rfl)) rfl a
set_option maxRecDepth 100000 in
theorem q758 {s : State} {a : Array Value} (h : mT s) : (Jvm.Cond.instanceMethod ({ cls := "ShareVault", name := "setShare", desc := "(II)I" } : Jvm.MethodName)).before a s = true := h _ (tin4 (List.mem_of_getElem? (l := tables_1_4) (i := 38) rfl)) rfl a
set_option maxRecDepth 100000 in
theorem q759 {s : State} {a : Array Value} (h : mT s) : (Jvm.Cond.selects "ShareVault" ({ cls := "ShareVault", name := "setShare", desc := "(II)I" } : Jvm.MethodName) ({ cls := "ShareVault", name := "setShare", desc := "(II)I" } : Jvm.MethodName)).before a s = true := h _ (tin4 (List.mem_of_getElem? (l := tables_1_4) (i := 39) rfl)) rfl a
set_option maxRecDepth 100000 in
theorem q772 {s : State} {a : Array Value} (h : mT s) : (Jvm.Cond.methodLink "ShareVaultLaw" (27 : Nat) ({ cls := "ShareVault", name := "present", desc := "(I)I" } : Jvm.MethodName)).before a s = true := h _ (tin4 (List.mem_of_getElem? (l := tables_1_4) (i := 52) rfl)) rfl a
set_option maxRecDepth 100000 in
theorem q773 {s : State} {a : Array Value} (h : mT s) : (Jvm.Cond.instanceMethod ({ cls := "ShareVault", name := "present", desc := "(I)I" } : Jvm.MethodName)).before a s = true := h _ (tin4 (List.mem_of_getElem? (l := tables_1_4) (i := 53) rfl)) rfl a
set_option maxRecDepth 100000 in
theorem q774 {s : State} {a : Array Value} (h : mT s) : (Jvm.Cond.selects "ShareVault" ({ cls := "ShareVault", name := "present", desc := "(I)I" } : Jvm.MethodName) ({ cls := "ShareVault", name := "present", desc := "(I)I" } : Jvm.MethodName)).before a s = true := h _ (tin4 (List.mem_of_getElem? (l := tables_1_4) (i := 54) rfl)) rfl a
set_option maxRecDepth 100000 in
theorem q787 {s : State} {a : Array Value} (h : mT s) : (Jvm.Cond.methodLink "ShareVaultLaw" (31 : Nat) ({ cls := "ShareVault", name := "takeBack", desc := "(I)I" } : Jvm.MethodName)).before a s = true := h _ (tin4 (List.mem_of_getElem? (l := tables_1_4) (i := 67) rfl)) rfl a
set_option maxRecDepth 100000 in
theorem q788 {s : State} {a : Array Value} (h : mT s) : (Jvm.Cond.instanceMethod ({ cls := "ShareVault", name := "takeBack", desc := "(I)I" } : Jvm.MethodName)).before a s = true := h _ (tin4 (List.mem_of_getElem? (l := tables_1_4) (i := 68) rfl)) rfl a
set_option maxRecDepth 100000 in
theorem q789 {s : State} {a : Array Value} (h : mT s) : (Jvm.Cond.selects "ShareVault" ({ cls := "ShareVault", name := "takeBack", desc := "(I)I" } : Jvm.MethodName) ({ cls := "ShareVault", name := "takeBack", desc := "(I)I" } : Jvm.MethodName)).before a s = true := h _ (tin4 (List.mem_of_getElem? (l := tables_1_4) (i := 69) rfl)) rfl a
set_option maxRecDepth 100000 in
theorem q802 {s : State} {a : Array Value} (h : mT s) : (Jvm.Cond.methodLink "ShareVaultLaw" (34 : Nat) ({ cls := "ShareVault", name := "openVault", desc := "()Z" } : Jvm.MethodName)).before a s = true := h _ (tin4 (List.mem_of_getElem? (l := tables_1_4) (i := 82) rfl)) rfl a
set_option maxRecDepth 100000 in
theorem q803 {s : State} {a : Array Value} (h : mT s) : (Jvm.Cond.instanceMethod ({ cls := "ShareVault", name := "openVault", desc := "()Z" } : Jvm.MethodName)).before a s = true := h _ (tin4 (List.mem_of_getElem? (l := tables_1_4) (i := 83) rfl)) rfl a
set_option maxRecDepth 100000 in
theorem q804 {s : State} {a : Array Value} (h : mT s) : (Jvm.Cond.selects "ShareVault" ({ cls := "ShareVault", name := "openVault", desc := "()Z" } : Jvm.MethodName) ({ cls := "ShareVault", name := "openVault", desc := "()Z" } : Jvm.MethodName)).before a s = true := h _ (tin4 (List.mem_of_getElem? (l := tables_1_4) (i := 84) rfl)) rfl a
set_option maxRecDepth 100000 in
theorem q841 {s : State} {a : Array Value} (h : mT s) : (Jvm.Cond.methodLink "ShareVaultLaw" (38 : Nat) ({ cls := "ShareVault", name := "closeVault", desc := "()I" } : Jvm.MethodName)).before a s = true := h _ (tin4 (List.mem_of_getElem? (l := tables_1_4) (i := 121) rfl)) rfl a
set_option maxRecDepth 100000 in
theorem q842 {s : State} {a : Array Value} (h : mT s) : (Jvm.Cond.instanceMethod ({ cls := "ShareVault", name := "closeVault", desc := "()I" } : Jvm.MethodName)).before a s = true := h _ (tin4 (List.mem_of_getElem? (l := tables_1_4) (i := 122) rfl)) rfl a
set_option maxRecDepth 100000 in
theorem q843 {s : State} {a : Array Value} (h : mT s) : (Jvm.Cond.selects "ShareVault" ({ cls := "ShareVault", name := "closeVault", desc := "()I" } : Jvm.MethodName) ({ cls := "ShareVault", name := "closeVault", desc := "()I" } : Jvm.MethodName)).before a s = true := h _ (tin4 (List.mem_of_getElem? (l := tables_1_4) (i := 123) rfl)) rfl a
set_option maxRecDepth 100000 in
theorem q852 {s : State} {a : Array Value} (h : mT s) : (Jvm.Cond.methodLink "ShareVaultLaw" (41 : Nat) ({ cls := "ShareVault", name := "addGuard", desc := "(IZI)I" } : Jvm.MethodName)).before a s = true := h _ (tin4 (List.mem_of_getElem? (l := tables_1_4) (i := 132) rfl)) rfl a
set_option maxRecDepth 100000 in
theorem q853 {s : State} {a : Array Value} (h : mT s) : (Jvm.Cond.instanceMethod ({ cls := "ShareVault", name := "addGuard", desc := "(IZI)I" } : Jvm.MethodName)).before a s = true := h _ (tin4 (List.mem_of_getElem? (l := tables_1_4) (i := 133) rfl)) rfl a
set_option maxRecDepth 100000 in
theorem q854 {s : State} {a : Array Value} (h : mT s) : (Jvm.Cond.selects "ShareVault" ({ cls := "ShareVault", name := "addGuard", desc := "(IZI)I" } : Jvm.MethodName) ({ cls := "ShareVault", name := "addGuard", desc := "(IZI)I" } : Jvm.MethodName)).before a s = true := h _ (tin4 (List.mem_of_getElem? (l := tables_1_4) (i := 134) rfl)) rfl a
set_option maxRecDepth 100000 in
theorem q870 {s : State} {a : Array Value} (h : mT s) : (Jvm.Cond.methodLink "ShareVaultLaw" (45 : Nat) ({ cls := "ShareVault", name := "turnGuard", desc := "(I)Z" } : Jvm.MethodName)).before a s = true := h _ (tin4 (List.mem_of_getElem? (l := tables_1_4) (i := 150) rfl)) rfl a
set_option maxRecDepth 100000 in
theorem q871 {s : State} {a : Array Value} (h : mT s) : (Jvm.Cond.instanceMethod ({ cls := "ShareVault", name := "turnGuard", desc := "(I)Z" } : Jvm.MethodName)).before a s = true := h _ (tin4 (List.mem_of_getElem? (l := tables_1_4) (i := 151) rfl)) rfl a
set_option maxRecDepth 100000 in
theorem q872 {s : State} {a : Array Value} (h : mT s) : (Jvm.Cond.selects "ShareVault" ({ cls := "ShareVault", name := "turnGuard", desc := "(I)Z" } : Jvm.MethodName) ({ cls := "ShareVault", name := "turnGuard", desc := "(I)Z" } : Jvm.MethodName)).before a s = true := h _ (tin4 (List.mem_of_getElem? (l := tables_1_4) (i := 152) rfl)) rfl a
set_option maxRecDepth 100000 in
theorem q885 {s : State} {a : Array Value} (h : mT s) : (Jvm.Cond.methodLink "ShareVaultLaw" (49 : Nat) ({ cls := "ShareVault", name := "hum", desc := "(II)I" } : Jvm.MethodName)).before a s = true := h _ (tin4 (List.mem_of_getElem? (l := tables_1_4) (i := 165) rfl)) rfl a
set_option maxRecDepth 100000 in
theorem q886 {s : State} {a : Array Value} (h : mT s) : (Jvm.Cond.instanceMethod ({ cls := "ShareVault", name := "hum", desc := "(II)I" } : Jvm.MethodName)).before a s = true := h _ (tin4 (List.mem_of_getElem? (l := tables_1_4) (i := 166) rfl)) rfl a
set_option maxRecDepth 100000 in
theorem q887 {s : State} {a : Array Value} (h : mT s) : (Jvm.Cond.selects "ShareVault" ({ cls := "ShareVault", name := "hum", desc := "(II)I" } : Jvm.MethodName) ({ cls := "ShareVault", name := "hum", desc := "(II)I" } : Jvm.MethodName)).before a s = true := h _ (tin4 (List.mem_of_getElem? (l := tables_1_4) (i := 167) rfl)) rfl a
set_option maxRecDepth 100000 in
theorem q897 {s : State} {a : Array Value} (h : mT s) : (Jvm.Cond.methodLink "ShareVaultLaw" (52 : Nat) ({ cls := "ShareVault", name := "passHours", desc := "(I)I" } : Jvm.MethodName)).before a s = true := h _ (tin4 (List.mem_of_getElem? (l := tables_1_4) (i := 177) rfl)) rfl a
set_option maxRecDepth 100000 in
theorem q898 {s : State} {a : Array Value} (h : mT s) : (Jvm.Cond.instanceMethod ({ cls := "ShareVault", name := "passHours", desc := "(I)I" } : Jvm.MethodName)).before a s = true := h _ (tin4 (List.mem_of_getElem? (l := tables_1_4) (i := 178) rfl)) rfl a
set_option maxRecDepth 100000 in
theorem q899 {s : State} {a : Array Value} (h : mT s) : (Jvm.Cond.selects "ShareVault" ({ cls := "ShareVault", name := "passHours", desc := "(I)I" } : Jvm.MethodName) ({ cls := "ShareVault", name := "passHours", desc := "(I)I" } : Jvm.MethodName)).before a s = true := h _ (tin4 (List.mem_of_getElem? (l := tables_1_4) (i := 179) rfl)) rfl a
set_option maxRecDepth 100000 in
theorem q926 {s : State} {a : Array Value} (h : mT s) : (Jvm.Cond.classLink "ShareVaultLaw" (58 : Nat) "java/util/NoSuchElementException").before a s = true := h _ (tin4 (List.mem_of_getElem? (l := tables_1_4) (i := 206) rfl)) rfl a
set_option maxRecDepth 100000 in
theorem q927 {s : State} {a : Array Value} (h : mT s) : (Jvm.Cond.methodLink "ShareVaultLaw" (55 : Nat) ({ cls := "ShareVault", name := "threshold", desc := "()I" } : Jvm.MethodName)).before a s = true := h _ (tin4 (List.mem_of_getElem? (l := tables_1_4) (i := 207) rfl)) rfl a
set_option maxRecDepth 100000 in
theorem q928 {s : State} {a : Array Value} (h : mT s) : (Jvm.Cond.instanceMethod ({ cls := "ShareVault", name := "threshold", desc := "()I" } : Jvm.MethodName)).before a s = true := h _ (tin4 (List.mem_of_getElem? (l := tables_1_4) (i := 208) rfl)) rfl a
set_option maxRecDepth 100000 in
theorem q929 {s : State} {a : Array Value} (h : mT s) : (Jvm.Cond.selects "ShareVault" ({ cls := "ShareVault", name := "threshold", desc := "()I" } : Jvm.MethodName) ({ cls := "ShareVault", name := "threshold", desc := "()I" } : Jvm.MethodName)).before a s = true := h _ (tin4 (List.mem_of_getElem? (l := tables_1_4) (i := 209) rfl)) rfl a
set_option maxRecDepth 100000 in
theorem q937 {s : State} {a : Array Value} (h : mT s) : (Jvm.Cond.castable "java/util/NoSuchElementException" "java/util/NoSuchElementException").before a s = true := h _ (tin4 (List.mem_of_getElem? (l := tables_1_4) (i := 217) rfl)) rfl a
set_option maxRecDepth 100000 in
theorem q954 {s : State} {a : Array Value} (h : mT s) : (Jvm.Cond.methodLink "ShareVaultLaw" (60 : Nat) ({ cls := "ShareVault", name := "share", desc := "(I)I" } : Jvm.MethodName)).before a s = true := h _ (tin4 (List.mem_of_getElem? (l := tables_1_4) (i := 234) rfl)) rfl a
set_option maxRecDepth 100000 in
theorem q955 {s : State} {a : Array Value} (h : mT s) : (Jvm.Cond.instanceMethod ({ cls := "ShareVault", name := "share", desc := "(I)I" } : Jvm.MethodName)).before a s = true := h _ (tin4 (List.mem_of_getElem? (l := tables_1_4) (i := 235) rfl)) rfl a
set_option maxRecDepth 100000 in
theorem q956 {s : State} {a : Array Value} (h : mT s) : (Jvm.Cond.selects "ShareVault" ({ cls := "ShareVault", name := "share", desc := "(I)I" } : Jvm.MethodName) ({ cls := "ShareVault", name := "share", desc := "(I)I" } : Jvm.MethodName)).before a s = true := h _ (tin4 (List.mem_of_getElem? (l := tables_1_4) (i := 236) rfl)) rfl a
set_option maxRecDepth 100000 in
theorem q967 {s : State} {a : Array Value} (h : mT s) : (Jvm.Cond.methodLink "ShareVaultLaw" (63 : Nat) ({ cls := "ShareVault", name := "isCorrect", desc := "(I)Z" } : Jvm.MethodName)).before a s = true := h _ (tin5 (List.mem_of_getElem? (l := tables_1_5) (i := 7) rfl)) rfl a
set_option maxRecDepth 100000 in
theorem q968 {s : State} {a : Array Value} (h : mT s) : (Jvm.Cond.instanceMethod ({ cls := "ShareVault", name := "isCorrect", desc := "(I)Z" } : Jvm.MethodName)).before a s = true := h _ (tin5 (List.mem_of_getElem? (l := tables_1_5) (i := 8) rfl)) rfl a
set_option maxRecDepth 100000 in
theorem q969 {s : State} {a : Array Value} (h : mT s) : (Jvm.Cond.selects "ShareVault" ({ cls := "ShareVault", name := "isCorrect", desc := "(I)Z" } : Jvm.MethodName) ({ cls := "ShareVault", name := "isCorrect", desc := "(I)Z" } : Jvm.MethodName)).before a s = true := h _ (tin5 (List.mem_of_getElem? (l := tables_1_5) (i := 9) rfl)) rfl a
set_option maxRecDepth 100000 in
theorem q975 {s : State} {a : Array Value} (h : mT s) : (Jvm.Cond.methodLink "ShareVaultLaw" (66 : Nat) ({ cls := "ShareVault", name := "isPresented", desc := "(I)Z" } : Jvm.MethodName)).before a s = true := h _ (tin5 (List.mem_of_getElem? (l := tables_1_5) (i := 15) rfl)) rfl a
set_option maxRecDepth 100000 in
theorem q976 {s : State} {a : Array Value} (h : mT s) : (Jvm.Cond.instanceMethod ({ cls := "ShareVault", name := "isPresented", desc := "(I)Z" } : Jvm.MethodName)).before a s = true := h _ (tin5 (List.mem_of_getElem? (l := tables_1_5) (i := 16) rfl)) rfl a
set_option maxRecDepth 100000 in
theorem q977 {s : State} {a : Array Value} (h : mT s) : (Jvm.Cond.selects "ShareVault" ({ cls := "ShareVault", name := "isPresented", desc := "(I)Z" } : Jvm.MethodName) ({ cls := "ShareVault", name := "isPresented", desc := "(I)Z" } : Jvm.MethodName)).before a s = true := h _ (tin5 (List.mem_of_getElem? (l := tables_1_5) (i := 17) rfl)) rfl a
set_option maxRecDepth 100000 in
theorem q983 {s : State} {a : Array Value} (h : mT s) : (Jvm.Cond.methodLink "ShareVaultLaw" (69 : Nat) ({ cls := "ShareVault", name := "presentedAt", desc := "(I)I" } : Jvm.MethodName)).before a s = true := h _ (tin5 (List.mem_of_getElem? (l := tables_1_5) (i := 23) rfl)) rfl a
set_option maxRecDepth 100000 in
theorem q984 {s : State} {a : Array Value} (h : mT s) : (Jvm.Cond.instanceMethod ({ cls := "ShareVault", name := "presentedAt", desc := "(I)I" } : Jvm.MethodName)).before a s = true := h _ (tin5 (List.mem_of_getElem? (l := tables_1_5) (i := 24) rfl)) rfl a
set_option maxRecDepth 100000 in
theorem q985 {s : State} {a : Array Value} (h : mT s) : (Jvm.Cond.selects "ShareVault" ({ cls := "ShareVault", name := "presentedAt", desc := "(I)I" } : Jvm.MethodName) ({ cls := "ShareVault", name := "presentedAt", desc := "(I)I" } : Jvm.MethodName)).before a s = true := h _ (tin5 (List.mem_of_getElem? (l := tables_1_5) (i := 25) rfl)) rfl a
set_option maxRecDepth 100000 in
theorem q991 {s : State} {a : Array Value} (h : mT s) : (Jvm.Cond.methodLink "ShareVaultLaw" (72 : Nat) ({ cls := "ShareVault", name := "toldSecret", desc := "()I" } : Jvm.MethodName)).before a s = true := h _ (tin5 (List.mem_of_getElem? (l := tables_1_5) (i := 31) rfl)) rfl a
set_option maxRecDepth 100000 in
theorem q992 {s : State} {a : Array Value} (h : mT s) : (Jvm.Cond.instanceMethod ({ cls := "ShareVault", name := "toldSecret", desc := "()I" } : Jvm.MethodName)).before a s = true := h _ (tin5 (List.mem_of_getElem? (l := tables_1_5) (i := 32) rfl)) rfl a
set_option maxRecDepth 100000 in
theorem q993 {s : State} {a : Array Value} (h : mT s) : (Jvm.Cond.selects "ShareVault" ({ cls := "ShareVault", name := "toldSecret", desc := "()I" } : Jvm.MethodName) ({ cls := "ShareVault", name := "toldSecret", desc := "()I" } : Jvm.MethodName)).before a s = true := h _ (tin5 (List.mem_of_getElem? (l := tables_1_5) (i := 33) rfl)) rfl a
set_option maxRecDepth 100000 in
theorem q1003 {s : State} {a : Array Value} (h : mT s) : (Jvm.Cond.methodLink "ShareVaultLaw" (75 : Nat) ({ cls := "ShareVault", name := "toldSecretByElimination", desc := "()I" } : Jvm.MethodName)).before a s = true := h _ (tin5 (List.mem_of_getElem? (l := tables_1_5) (i := 43) rfl)) rfl a
set_option maxRecDepth 100000 in
theorem q1004 {s : State} {a : Array Value} (h : mT s) : (Jvm.Cond.instanceMethod ({ cls := "ShareVault", name := "toldSecretByElimination", desc := "()I" } : Jvm.MethodName)).before a s = true := h _ (tin5 (List.mem_of_getElem? (l := tables_1_5) (i := 44) rfl)) rfl a
set_option maxRecDepth 100000 in
theorem q1005 {s : State} {a : Array Value} (h : mT s) : (Jvm.Cond.selects "ShareVault" ({ cls := "ShareVault", name := "toldSecretByElimination", desc := "()I" } : Jvm.MethodName) ({ cls := "ShareVault", name := "toldSecretByElimination", desc := "()I" } : Jvm.MethodName)).before a s = true := h _ (tin5 (List.mem_of_getElem? (l := tables_1_5) (i := 45) rfl)) rfl a
set_option maxRecDepth 100000 in
theorem q1010 {s : State} {a : Array Value} (h : mT s) : (Jvm.Cond.methodLink "ShareVaultLaw" (78 : Nat) ({ cls := "ShareVault", name := "toldValue", desc := "(I)I" } : Jvm.MethodName)).before a s = true := h _ (tin5 (List.mem_of_getElem? (l := tables_1_5) (i := 50) rfl)) rfl a
set_option maxRecDepth 100000 in
theorem q1011 {s : State} {a : Array Value} (h : mT s) : (Jvm.Cond.instanceMethod ({ cls := "ShareVault", name := "toldValue", desc := "(I)I" } : Jvm.MethodName)).before a s = true := h _ (tin5 (List.mem_of_getElem? (l := tables_1_5) (i := 51) rfl)) rfl a
set_option maxRecDepth 100000 in
theorem q1012 {s : State} {a : Array Value} (h : mT s) : (Jvm.Cond.selects "ShareVault" ({ cls := "ShareVault", name := "toldValue", desc := "(I)I" } : Jvm.MethodName) ({ cls := "ShareVault", name := "toldValue", desc := "(I)I" } : Jvm.MethodName)).before a s = true := h _ (tin5 (List.mem_of_getElem? (l := tables_1_5) (i := 52) rfl)) rfl a
set_option maxRecDepth 100000 in
theorem q1018 {s : State} {a : Array Value} (h : mT s) : (Jvm.Cond.methodLink "ShareVaultLaw" (81 : Nat) ({ cls := "ShareVault", name := "doAgree", desc := "()Z" } : Jvm.MethodName)).before a s = true := h _ (tin5 (List.mem_of_getElem? (l := tables_1_5) (i := 58) rfl)) rfl a
set_option maxRecDepth 100000 in
theorem q1019 {s : State} {a : Array Value} (h : mT s) : (Jvm.Cond.instanceMethod ({ cls := "ShareVault", name := "doAgree", desc := "()Z" } : Jvm.MethodName)).before a s = true := h _ (tin5 (List.mem_of_getElem? (l := tables_1_5) (i := 59) rfl)) rfl a
set_option maxRecDepth 100000 in
theorem q1020 {s : State} {a : Array Value} (h : mT s) : (Jvm.Cond.selects "ShareVault" ({ cls := "ShareVault", name := "doAgree", desc := "()Z" } : Jvm.MethodName) ({ cls := "ShareVault", name := "doAgree", desc := "()Z" } : Jvm.MethodName)).before a s = true := h _ (tin5 (List.mem_of_getElem? (l := tables_1_5) (i := 60) rfl)) rfl a
set_option maxRecDepth 100000 in
theorem q1029 {s : State} {a : Array Value} (h : mT s) : (Jvm.Cond.methodLink "ShareVaultLaw" (84 : Nat) ({ cls := "ShareVault", name := "mostAgreeing", desc := "()I" } : Jvm.MethodName)).before a s = true := h _ (tin5 (List.mem_of_getElem? (l := tables_1_5) (i := 69) rfl)) rfl a
set_option maxRecDepth 100000 in
theorem q1030 {s : State} {a : Array Value} (h : mT s) : (Jvm.Cond.instanceMethod ({ cls := "ShareVault", name := "mostAgreeing", desc := "()I" } : Jvm.MethodName)).before a s = true := h _ (tin5 (List.mem_of_getElem? (l := tables_1_5) (i := 70) rfl)) rfl a
set_option maxRecDepth 100000 in
theorem q1031 {s : State} {a : Array Value} (h : mT s) : (Jvm.Cond.selects "ShareVault" ({ cls := "ShareVault", name := "mostAgreeing", desc := "()I" } : Jvm.MethodName) ({ cls := "ShareVault", name := "mostAgreeing", desc := "()I" } : Jvm.MethodName)).before a s = true := h _ (tin5 (List.mem_of_getElem? (l := tables_1_5) (i := 71) rfl)) rfl a
set_option maxRecDepth 100000 in
theorem q1036 {s : State} {a : Array Value} (h : mT s) : (Jvm.Cond.methodLink "ShareVaultLaw" (87 : Nat) ({ cls := "ShareVault", name := "mostAgreeingBySets", desc := "()I" } : Jvm.MethodName)).before a s = true := h _ (tin5 (List.mem_of_getElem? (l := tables_1_5) (i := 76) rfl)) rfl a
set_option maxRecDepth 100000 in
theorem q1037 {s : State} {a : Array Value} (h : mT s) : (Jvm.Cond.instanceMethod ({ cls := "ShareVault", name := "mostAgreeingBySets", desc := "()I" } : Jvm.MethodName)).before a s = true := h _ (tin5 (List.mem_of_getElem? (l := tables_1_5) (i := 77) rfl)) rfl a
set_option maxRecDepth 100000 in
theorem q1038 {s : State} {a : Array Value} (h : mT s) : (Jvm.Cond.selects "ShareVault" ({ cls := "ShareVault", name := "mostAgreeingBySets", desc := "()I" } : Jvm.MethodName) ({ cls := "ShareVault", name := "mostAgreeingBySets", desc := "()I" } : Jvm.MethodName)).before a s = true := h _ (tin5 (List.mem_of_getElem? (l := tables_1_5) (i := 78) rfl)) rfl a
set_option maxRecDepth 100000 in
theorem q1043 {s : State} {a : Array Value} (h : mT s) : (Jvm.Cond.methodLink "ShareVaultLaw" (90 : Nat) ({ cls := "ShareVault", name := "zoneOf", desc := "(I)I" } : Jvm.MethodName)).before a s = true := h _ (tin5 (List.mem_of_getElem? (l := tables_1_5) (i := 83) rfl)) rfl a
set_option maxRecDepth 100000 in
theorem q1044 {s : State} {a : Array Value} (h : mT s) : (Jvm.Cond.instanceMethod ({ cls := "ShareVault", name := "zoneOf", desc := "(I)I" } : Jvm.MethodName)).before a s = true := h _ (tin5 (List.mem_of_getElem? (l := tables_1_5) (i := 84) rfl)) rfl a
set_option maxRecDepth 100000 in
theorem q1045 {s : State} {a : Array Value} (h : mT s) : (Jvm.Cond.selects "ShareVault" ({ cls := "ShareVault", name := "zoneOf", desc := "(I)I" } : Jvm.MethodName) ({ cls := "ShareVault", name := "zoneOf", desc := "(I)I" } : Jvm.MethodName)).before a s = true := h _ (tin5 (List.mem_of_getElem? (l := tables_1_5) (i := 85) rfl)) rfl a
set_option maxRecDepth 100000 in
theorem q1056 {s : State} {a : Array Value} (h : mT s) : (Jvm.Cond.methodLink "ShareVaultLaw" (93 : Nat) ({ cls := "ShareVault", name := "isForwards", desc := "(I)Z" } : Jvm.MethodName)).before a s = true := h _ (tin5 (List.mem_of_getElem? (l := tables_1_5) (i := 96) rfl)) rfl a
set_option maxRecDepth 100000 in
theorem q1057 {s : State} {a : Array Value} (h : mT s) : (Jvm.Cond.instanceMethod ({ cls := "ShareVault", name := "isForwards", desc := "(I)Z" } : Jvm.MethodName)).before a s = true := h _ (tin5 (List.mem_of_getElem? (l := tables_1_5) (i := 97) rfl)) rfl a
set_option maxRecDepth 100000 in
theorem q1058 {s : State} {a : Array Value} (h : mT s) : (Jvm.Cond.selects "ShareVault" ({ cls := "ShareVault", name := "isForwards", desc := "(I)Z" } : Jvm.MethodName) ({ cls := "ShareVault", name := "isForwards", desc := "(I)Z" } : Jvm.MethodName)).before a s = true := h _ (tin5 (List.mem_of_getElem? (l := tables_1_5) (i := 98) rfl)) rfl a
set_option maxRecDepth 100000 in
theorem q1063 {s : State} {a : Array Value} (h : mT s) : (Jvm.Cond.methodLink "ShareVaultLaw" (96 : Nat) ({ cls := "ShareVault", name := "noise", desc := "(I)I" } : Jvm.MethodName)).before a s = true := h _ (tin5 (List.mem_of_getElem? (l := tables_1_5) (i := 103) rfl)) rfl a
set_option maxRecDepth 100000 in
theorem q1064 {s : State} {a : Array Value} (h : mT s) : (Jvm.Cond.instanceMethod ({ cls := "ShareVault", name := "noise", desc := "(I)I" } : Jvm.MethodName)).before a s = true := h _ (tin5 (List.mem_of_getElem? (l := tables_1_5) (i := 104) rfl)) rfl a
set_option maxRecDepth 100000 in
theorem q1065 {s : State} {a : Array Value} (h : mT s) : (Jvm.Cond.selects "ShareVault" ({ cls := "ShareVault", name := "noise", desc := "(I)I" } : Jvm.MethodName) ({ cls := "ShareVault", name := "noise", desc := "(I)I" } : Jvm.MethodName)).before a s = true := h _ (tin5 (List.mem_of_getElem? (l := tables_1_5) (i := 105) rfl)) rfl a
set_option maxRecDepth 100000 in
theorem q1076 {s : State} {a : Array Value} (h : mT s) : (Jvm.Cond.methodLink "ShareVaultLaw" (99 : Nat) ({ cls := "ShareVault", name := "isGuarded", desc := "(I)Z" } : Jvm.MethodName)).before a s = true := h _ (tin5 (List.mem_of_getElem? (l := tables_1_5) (i := 116) rfl)) rfl a
set_option maxRecDepth 100000 in
theorem q1077 {s : State} {a : Array Value} (h : mT s) : (Jvm.Cond.instanceMethod ({ cls := "ShareVault", name := "isGuarded", desc := "(I)Z" } : Jvm.MethodName)).before a s = true := h _ (tin5 (List.mem_of_getElem? (l := tables_1_5) (i := 117) rfl)) rfl a
set_option maxRecDepth 100000 in
theorem q1078 {s : State} {a : Array Value} (h : mT s) : (Jvm.Cond.selects "ShareVault" ({ cls := "ShareVault", name := "isGuarded", desc := "(I)Z" } : Jvm.MethodName) ({ cls := "ShareVault", name := "isGuarded", desc := "(I)Z" } : Jvm.MethodName)).before a s = true := h _ (tin5 (List.mem_of_getElem? (l := tables_1_5) (i := 118) rfl)) rfl a
set_option maxRecDepth 100000 in
theorem q1084 {s : State} {a : Array Value} (h : mT s) : (Jvm.Cond.methodLink "ShareVaultLaw" (102 : Nat) ({ cls := "ShareVault", name := "hoursUntilVisit", desc := "(I)I" } : Jvm.MethodName)).before a s = true := h _ (tin5 (List.mem_of_getElem? (l := tables_1_5) (i := 124) rfl)) rfl a
set_option maxRecDepth 100000 in
theorem q1085 {s : State} {a : Array Value} (h : mT s) : (Jvm.Cond.instanceMethod ({ cls := "ShareVault", name := "hoursUntilVisit", desc := "(I)I" } : Jvm.MethodName)).before a s = true := h _ (tin5 (List.mem_of_getElem? (l := tables_1_5) (i := 125) rfl)) rfl a
set_option maxRecDepth 100000 in
theorem q1086 {s : State} {a : Array Value} (h : mT s) : (Jvm.Cond.selects "ShareVault" ({ cls := "ShareVault", name := "hoursUntilVisit", desc := "(I)I" } : Jvm.MethodName) ({ cls := "ShareVault", name := "hoursUntilVisit", desc := "(I)I" } : Jvm.MethodName)).before a s = true := h _ (tin5 (List.mem_of_getElem? (l := tables_1_5) (i := 126) rfl)) rfl a
set_option maxRecDepth 100000 in
theorem q1096 {s : State} {a : Array Value} (h : mT s) : (Jvm.Cond.methodLink "ShareVaultLaw" (105 : Nat) ({ cls := "ShareVault", name := "hoursUntilVisitByRemainders", desc := "(I)I" } : Jvm.MethodName)).before a s = true := h _ (tin5 (List.mem_of_getElem? (l := tables_1_5) (i := 136) rfl)) rfl a
set_option maxRecDepth 100000 in
theorem q1097 {s : State} {a : Array Value} (h : mT s) : (Jvm.Cond.instanceMethod ({ cls := "ShareVault", name := "hoursUntilVisitByRemainders", desc := "(I)I" } : Jvm.MethodName)).before a s = true := h _ (tin5 (List.mem_of_getElem? (l := tables_1_5) (i := 137) rfl)) rfl a
set_option maxRecDepth 100000 in
theorem q1098 {s : State} {a : Array Value} (h : mT s) : (Jvm.Cond.selects "ShareVault" ({ cls := "ShareVault", name := "hoursUntilVisitByRemainders", desc := "(I)I" } : Jvm.MethodName) ({ cls := "ShareVault", name := "hoursUntilVisitByRemainders", desc := "(I)I" } : Jvm.MethodName)).before a s = true := h _ (tin5 (List.mem_of_getElem? (l := tables_1_5) (i := 138) rfl)) rfl a
set_option maxRecDepth 100000 in
theorem q1103 {s : State} {a : Array Value} (h : mT s) : (Jvm.Cond.methodLink "ShareVaultLaw" (108 : Nat) ({ cls := "ShareVault", name := "alarmsIn", desc := "(I)I" } : Jvm.MethodName)).before a s = true := h _ (tin5 (List.mem_of_getElem? (l := tables_1_5) (i := 143) rfl)) rfl a
set_option maxRecDepth 100000 in
theorem q1104 {s : State} {a : Array Value} (h : mT s) : (Jvm.Cond.instanceMethod ({ cls := "ShareVault", name := "alarmsIn", desc := "(I)I" } : Jvm.MethodName)).before a s = true := h _ (tin5 (List.mem_of_getElem? (l := tables_1_5) (i := 144) rfl)) rfl a
set_option maxRecDepth 100000 in
theorem q1105 {s : State} {a : Array Value} (h : mT s) : (Jvm.Cond.selects "ShareVault" ({ cls := "ShareVault", name := "alarmsIn", desc := "(I)I" } : Jvm.MethodName) ({ cls := "ShareVault", name := "alarmsIn", desc := "(I)I" } : Jvm.MethodName)).before a s = true := h _ (tin5 (List.mem_of_getElem? (l := tables_1_5) (i := 145) rfl)) rfl a
set_option maxRecDepth 100000 in
theorem q1112 {s : State} {a : Array Value} (h : mT s) : (Jvm.Cond.methodLink "ShareVaultLaw" (111 : Nat) ({ cls := "ShareVault", name := "zoneByNoise", desc := "(I)I" } : Jvm.MethodName)).before a s = true := h _ (tin5 (List.mem_of_getElem? (l := tables_1_5) (i := 152) rfl)) rfl a
set_option maxRecDepth 100000 in
theorem q1113 {s : State} {a : Array Value} (h : mT s) : (Jvm.Cond.instanceMethod ({ cls := "ShareVault", name := "zoneByNoise", desc := "(I)I" } : Jvm.MethodName)).before a s = true := h _ (tin5 (List.mem_of_getElem? (l := tables_1_5) (i := 153) rfl)) rfl a
set_option maxRecDepth 100000 in
theorem q1114 {s : State} {a : Array Value} (h : mT s) : (Jvm.Cond.selects "ShareVault" ({ cls := "ShareVault", name := "zoneByNoise", desc := "(I)I" } : Jvm.MethodName) ({ cls := "ShareVault", name := "zoneByNoise", desc := "(I)I" } : Jvm.MethodName)).before a s = true := h _ (tin5 (List.mem_of_getElem? (l := tables_1_5) (i := 154) rfl)) rfl a
set_option maxRecDepth 100000 in
theorem q1132 {s : State} {a : Array Value} (h : mT s) : (Jvm.Cond.methodLink "ShareVaultLaw" (114 : Nat) ({ cls := "ShareVault", name := "alarmsOf", desc := "(I)I" } : Jvm.MethodName)).before a s = true := h _ (tin5 (List.mem_of_getElem? (l := tables_1_5) (i := 172) rfl)) rfl a
set_option maxRecDepth 100000 in
theorem q1133 {s : State} {a : Array Value} (h : mT s) : (Jvm.Cond.instanceMethod ({ cls := "ShareVault", name := "alarmsOf", desc := "(I)I" } : Jvm.MethodName)).before a s = true := h _ (tin5 (List.mem_of_getElem? (l := tables_1_5) (i := 173) rfl)) rfl a
set_option maxRecDepth 100000 in
theorem q1134 {s : State} {a : Array Value} (h : mT s) : (Jvm.Cond.selects "ShareVault" ({ cls := "ShareVault", name := "alarmsOf", desc := "(I)I" } : Jvm.MethodName) ({ cls := "ShareVault", name := "alarmsOf", desc := "(I)I" } : Jvm.MethodName)).before a s = true := h _ (tin5 (List.mem_of_getElem? (l := tables_1_5) (i := 174) rfl)) rfl a
set_option maxRecDepth 100000 in
theorem q1139 {s : State} {a : Array Value} (h : mT s) : (Jvm.Cond.methodLink "ShareVaultLaw" (117 : Nat) ({ cls := "ShareVault", name := "logHour", desc := "(I)I" } : Jvm.MethodName)).before a s = true := h _ (tin5 (List.mem_of_getElem? (l := tables_1_5) (i := 179) rfl)) rfl a
set_option maxRecDepth 100000 in
theorem q1140 {s : State} {a : Array Value} (h : mT s) : (Jvm.Cond.instanceMethod ({ cls := "ShareVault", name := "logHour", desc := "(I)I" } : Jvm.MethodName)).before a s = true := h _ (tin5 (List.mem_of_getElem? (l := tables_1_5) (i := 180) rfl)) rfl a
set_option maxRecDepth 100000 in
theorem q1141 {s : State} {a : Array Value} (h : mT s) : (Jvm.Cond.selects "ShareVault" ({ cls := "ShareVault", name := "logHour", desc := "(I)I" } : Jvm.MethodName) ({ cls := "ShareVault", name := "logHour", desc := "(I)I" } : Jvm.MethodName)).before a s = true := h _ (tin5 (List.mem_of_getElem? (l := tables_1_5) (i := 181) rfl)) rfl a
set_option maxRecDepth 100000 in
theorem q1151 {s : State} {a : Array Value} (h : mT s) : (Jvm.Cond.methodLink "ShareVaultLaw" (120 : Nat) ({ cls := "ShareVault", name := "logKind", desc := "(I)C" } : Jvm.MethodName)).before a s = true := h _ (tin5 (List.mem_of_getElem? (l := tables_1_5) (i := 191) rfl)) rfl a
set_option maxRecDepth 100000 in
theorem q1152 {s : State} {a : Array Value} (h : mT s) : (Jvm.Cond.instanceMethod ({ cls := "ShareVault", name := "logKind", desc := "(I)C" } : Jvm.MethodName)).before a s = true := h _ (tin5 (List.mem_of_getElem? (l := tables_1_5) (i := 192) rfl)) rfl a
set_option maxRecDepth 100000 in
theorem q1153 {s : State} {a : Array Value} (h : mT s) : (Jvm.Cond.selects "ShareVault" ({ cls := "ShareVault", name := "logKind", desc := "(I)C" } : Jvm.MethodName) ({ cls := "ShareVault", name := "logKind", desc := "(I)C" } : Jvm.MethodName)).before a s = true := h _ (tin5 (List.mem_of_getElem? (l := tables_1_5) (i := 193) rfl)) rfl a
set_option maxRecDepth 100000 in
theorem q1158 {s : State} {a : Array Value} (h : mT s) : (Jvm.Cond.methodLink "ShareVaultLaw" (124 : Nat) ({ cls := "ShareVault", name := "logDetail", desc := "(I)I" } : Jvm.MethodName)).before a s = true := h _ (tin5 (List.mem_of_getElem? (l := tables_1_5) (i := 198) rfl)) rfl a
set_option maxRecDepth 100000 in
theorem q1159 {s : State} {a : Array Value} (h : mT s) : (Jvm.Cond.instanceMethod ({ cls := "ShareVault", name := "logDetail", desc := "(I)I" } : Jvm.MethodName)).before a s = true := h _ (tin5 (List.mem_of_getElem? (l := tables_1_5) (i := 199) rfl)) rfl a
set_option maxRecDepth 100000 in
theorem q1160 {s : State} {a : Array Value} (h : mT s) : (Jvm.Cond.selects "ShareVault" ({ cls := "ShareVault", name := "logDetail", desc := "(I)I" } : Jvm.MethodName) ({ cls := "ShareVault", name := "logDetail", desc := "(I)I" } : Jvm.MethodName)).before a s = true := h _ (tin5 (List.mem_of_getElem? (l := tables_1_5) (i := 200) rfl)) rfl a
set_option maxRecDepth 100000 in
theorem q1165 {s : State} {a : Array Value} (h : mT s) : (Jvm.Cond.classLink "ShareVaultLaw" (131 : Nat) "java/lang/ArithmeticException").before a s = true := h _ (tin5 (List.mem_of_getElem? (l := tables_1_5) (i := 205) rfl)) rfl a
set_option maxRecDepth 100000 in
theorem q1177 {s : State} {a : Array Value} (h : mT s) : (Jvm.Cond.castable "java/lang/ArithmeticException" "java/lang/ArithmeticException").before a s = true := h _ (tin5 (List.mem_of_getElem? (l := tables_1_5) (i := 217) rfl)) rfl a
set_option maxRecDepth 100000 in
theorem q1179 {s : State} {a : Array Value} (h : mT s) : (Jvm.Cond.methodLink "ShareVaultLaw" (127 : Nat) ({ cls := "ShareVault", name := "alarmShare", desc := "(I)F" } : Jvm.MethodName)).before a s = true := h _ (tin5 (List.mem_of_getElem? (l := tables_1_5) (i := 219) rfl)) rfl a
set_option maxRecDepth 100000 in
theorem q1180 {s : State} {a : Array Value} (h : mT s) : (Jvm.Cond.instanceMethod ({ cls := "ShareVault", name := "alarmShare", desc := "(I)F" } : Jvm.MethodName)).before a s = true := h _ (tin5 (List.mem_of_getElem? (l := tables_1_5) (i := 220) rfl)) rfl a
set_option maxRecDepth 100000 in
theorem q1181 {s : State} {a : Array Value} (h : mT s) : (Jvm.Cond.selects "ShareVault" ({ cls := "ShareVault", name := "alarmShare", desc := "(I)F" } : Jvm.MethodName) ({ cls := "ShareVault", name := "alarmShare", desc := "(I)F" } : Jvm.MethodName)).before a s = true := h _ (tin5 (List.mem_of_getElem? (l := tables_1_5) (i := 221) rfl)) rfl a
set_option maxRecDepth 100000 in
theorem q1189 {s : State} {a : Array Value} (h : mT s) : (Jvm.Cond.methodLink "ShareVaultLaw" (133 : Nat) ({ cls := "ShareVault", name := "refusalReason", desc := "()I" } : Jvm.MethodName)).before a s = true := h _ (tin5 (List.mem_of_getElem? (l := tables_1_5) (i := 229) rfl)) rfl a
set_option maxRecDepth 100000 in
theorem q1190 {s : State} {a : Array Value} (h : mT s) : (Jvm.Cond.instanceMethod ({ cls := "ShareVault", name := "refusalReason", desc := "()I" } : Jvm.MethodName)).before a s = true := h _ (tin5 (List.mem_of_getElem? (l := tables_1_5) (i := 230) rfl)) rfl a
set_option maxRecDepth 100000 in
theorem q1191 {s : State} {a : Array Value} (h : mT s) : (Jvm.Cond.selects "ShareVault" ({ cls := "ShareVault", name := "refusalReason", desc := "()I" } : Jvm.MethodName) ({ cls := "ShareVault", name := "refusalReason", desc := "()I" } : Jvm.MethodName)).before a s = true := h _ (tin5 (List.mem_of_getElem? (l := tables_1_5) (i := 231) rfl)) rfl a
set_option maxRecDepth 100000 in
theorem q1201 {s : State} {a : Array Value} (h : mT s) : (Jvm.Cond.methodLink "ShareVaultLaw" (136 : Nat) ({ cls := "ShareVault", name := "refusalDetail", desc := "()I" } : Jvm.MethodName)).before a s = true := h _ (tin6 (List.mem_of_getElem? (l := tables_1_6) (i := 1) rfl)) rfl a
set_option maxRecDepth 100000 in
theorem q1202 {s : State} {a : Array Value} (h : mT s) : (Jvm.Cond.instanceMethod ({ cls := "ShareVault", name := "refusalDetail", desc := "()I" } : Jvm.MethodName)).before a s = true := h _ (tin6 (List.mem_of_getElem? (l := tables_1_6) (i := 2) rfl)) rfl a
set_option maxRecDepth 100000 in
theorem q1203 {s : State} {a : Array Value} (h : mT s) : (Jvm.Cond.selects "ShareVault" ({ cls := "ShareVault", name := "refusalDetail", desc := "()I" } : Jvm.MethodName) ({ cls := "ShareVault", name := "refusalDetail", desc := "()I" } : Jvm.MethodName)).before a s = true := h _ (tin6 (List.mem_of_getElem? (l := tables_1_6) (i := 3) rfl)) rfl a
set_option maxRecDepth 100000 in
theorem q1208 {s : State} {a : Array Value} (h : mT s) : (Jvm.Cond.methodLink "ShareVaultLaw" (139 : Nat) ({ cls := "ShareVault", name := "refusalCause", desc := "()I" } : Jvm.MethodName)).before a s = true := h _ (tin6 (List.mem_of_getElem? (l := tables_1_6) (i := 8) rfl)) rfl a
set_option maxRecDepth 100000 in
theorem q1209 {s : State} {a : Array Value} (h : mT s) : (Jvm.Cond.instanceMethod ({ cls := "ShareVault", name := "refusalCause", desc := "()I" } : Jvm.MethodName)).before a s = true := h _ (tin6 (List.mem_of_getElem? (l := tables_1_6) (i := 9) rfl)) rfl a
set_option maxRecDepth 100000 in
theorem q1210 {s : State} {a : Array Value} (h : mT s) : (Jvm.Cond.selects "ShareVault" ({ cls := "ShareVault", name := "refusalCause", desc := "()I" } : Jvm.MethodName) ({ cls := "ShareVault", name := "refusalCause", desc := "()I" } : Jvm.MethodName)).before a s = true := h _ (tin6 (List.mem_of_getElem? (l := tables_1_6) (i := 10) rfl)) rfl a
set_option maxRecDepth 100000 in
theorem q1216 {s : State} {a : Array Value} (h : mT s) : (Jvm.Cond.classLink "ShareVaultLaw" (146 : Nat) "java/lang/IllegalStateException").before a s = true := h _ (tin6 (List.mem_of_getElem? (l := tables_1_6) (i := 16) rfl)) rfl a
set_option maxRecDepth 100000 in
theorem q1217 {s : State} {a : Array Value} (h : mT s) : (Jvm.Cond.methodLink "ShareVaultLaw" (142 : Nat) ({ cls := "ShareVault", name := "feed", desc := "(C)I" } : Jvm.MethodName)).before a s = true := h _ (tin6 (List.mem_of_getElem? (l := tables_1_6) (i := 17) rfl)) rfl a
set_option maxRecDepth 100000 in
theorem q1218 {s : State} {a : Array Value} (h : mT s) : (Jvm.Cond.instanceMethod ({ cls := "ShareVault", name := "feed", desc := "(C)I" } : Jvm.MethodName)).before a s = true := h _ (tin6 (List.mem_of_getElem? (l := tables_1_6) (i := 18) rfl)) rfl a
set_option maxRecDepth 100000 in
theorem q1219 {s : State} {a : Array Value} (h : mT s) : (Jvm.Cond.selects "ShareVault" ({ cls := "ShareVault", name := "feed", desc := "(C)I" } : Jvm.MethodName) ({ cls := "ShareVault", name := "feed", desc := "(C)I" } : Jvm.MethodName)).before a s = true := h _ (tin6 (List.mem_of_getElem? (l := tables_1_6) (i := 19) rfl)) rfl a
set_option maxRecDepth 100000 in
theorem q1223 {s : State} {a : Array Value} (h : mT s) : (Jvm.Cond.castable "java/lang/IllegalStateException" "java/lang/IllegalStateException").before a s = true := h _ (tin6 (List.mem_of_getElem? (l := tables_1_6) (i := 23) rfl)) rfl a
set_option maxRecDepth 100000 in
theorem q1244 {s : State} {a : Array Value} (h : mT s) : (Jvm.Cond.methodLink "ShareVaultLaw" (148 : Nat) ({ cls := "ShareVault", name := "runCommands", desc := "()I" } : Jvm.MethodName)).before a s = true := h _ (tin6 (List.mem_of_getElem? (l := tables_1_6) (i := 44) rfl)) rfl a
set_option maxRecDepth 100000 in
theorem q1245 {s : State} {a : Array Value} (h : mT s) : (Jvm.Cond.instanceMethod ({ cls := "ShareVault", name := "runCommands", desc := "()I" } : Jvm.MethodName)).before a s = true := h _ (tin6 (List.mem_of_getElem? (l := tables_1_6) (i := 45) rfl)) rfl a
set_option maxRecDepth 100000 in
theorem q1246 {s : State} {a : Array Value} (h : mT s) : (Jvm.Cond.selects "ShareVault" ({ cls := "ShareVault", name := "runCommands", desc := "()I" } : Jvm.MethodName) ({ cls := "ShareVault", name := "runCommands", desc := "()I" } : Jvm.MethodName)).before a s = true := h _ (tin6 (List.mem_of_getElem? (l := tables_1_6) (i := 46) rfl)) rfl a
set_option maxRecDepth 100000 in
theorem q1383 {s : State} {a : Array Value} (h : mT s) : (Jvm.Cond.methodLink "ShareVaultLaw" (151 : Nat) ({ cls := "ShareVault", name := "errorPosition", desc := "()I" } : Jvm.MethodName)).before a s = true := h _ (tin6 (List.mem_of_getElem? (l := tables_1_6) (i := 183) rfl)) rfl a
set_option maxRecDepth 100000 in
theorem q1384 {s : State} {a : Array Value} (h : mT s) : (Jvm.Cond.instanceMethod ({ cls := "ShareVault", name := "errorPosition", desc := "()I" } : Jvm.MethodName)).before a s = true := h _ (tin6 (List.mem_of_getElem? (l := tables_1_6) (i := 184) rfl)) rfl a
set_option maxRecDepth 100000 in
theorem q1385 {s : State} {a : Array Value} (h : mT s) : (Jvm.Cond.selects "ShareVault" ({ cls := "ShareVault", name := "errorPosition", desc := "()I" } : Jvm.MethodName) ({ cls := "ShareVault", name := "errorPosition", desc := "()I" } : Jvm.MethodName)).before a s = true := h _ (tin6 (List.mem_of_getElem? (l := tables_1_6) (i := 185) rfl)) rfl a
set_option maxRecDepth 100000 in
theorem q1391 {s : State} {a : Array Value} (h : mT s) : (Jvm.Cond.methodLink "ShareVaultLaw" (154 : Nat) ({ cls := "ShareVault", name := "outputChar", desc := "(I)C" } : Jvm.MethodName)).before a s = true := h _ (tin6 (List.mem_of_getElem? (l := tables_1_6) (i := 191) rfl)) rfl a
set_option maxRecDepth 100000 in
theorem q1392 {s : State} {a : Array Value} (h : mT s) : (Jvm.Cond.instanceMethod ({ cls := "ShareVault", name := "outputChar", desc := "(I)C" } : Jvm.MethodName)).before a s = true := h _ (tin6 (List.mem_of_getElem? (l := tables_1_6) (i := 192) rfl)) rfl a
set_option maxRecDepth 100000 in
theorem q1393 {s : State} {a : Array Value} (h : mT s) : (Jvm.Cond.selects "ShareVault" ({ cls := "ShareVault", name := "outputChar", desc := "(I)C" } : Jvm.MethodName) ({ cls := "ShareVault", name := "outputChar", desc := "(I)C" } : Jvm.MethodName)).before a s = true := h _ (tin6 (List.mem_of_getElem? (l := tables_1_6) (i := 193) rfl)) rfl a
set_option maxRecDepth 100000 in
theorem q1399 {s : State} {a : Array Value} (h : mT s) : (Jvm.Cond.methodLink "ShareVaultLaw" (157 : Nat) ({ cls := "ShareVault", name := "undo", desc := "()I" } : Jvm.MethodName)).before a s = true := h _ (tin6 (List.mem_of_getElem? (l := tables_1_6) (i := 199) rfl)) rfl a
set_option maxRecDepth 100000 in
theorem q1400 {s : State} {a : Array Value} (h : mT s) : (Jvm.Cond.instanceMethod ({ cls := "ShareVault", name := "undo", desc := "()I" } : Jvm.MethodName)).before a s = true := h _ (tin6 (List.mem_of_getElem? (l := tables_1_6) (i := 200) rfl)) rfl a
set_option maxRecDepth 100000 in
theorem q1401 {s : State} {a : Array Value} (h : mT s) : (Jvm.Cond.selects "ShareVault" ({ cls := "ShareVault", name := "undo", desc := "()I" } : Jvm.MethodName) ({ cls := "ShareVault", name := "undo", desc := "()I" } : Jvm.MethodName)).before a s = true := h _ (tin6 (List.mem_of_getElem? (l := tables_1_6) (i := 201) rfl)) rfl a
set_option maxRecDepth 100000 in
theorem q1411 {s : State} {a : Array Value} (h : mT s) : (Jvm.Cond.methodLink "ShareVaultLaw" (160 : Nat) ({ cls := "ShareVault", name := "restore", desc := "()I" } : Jvm.MethodName)).before a s = true := h _ (tin6 (List.mem_of_getElem? (l := tables_1_6) (i := 211) rfl)) rfl a
set_option maxRecDepth 100000 in
theorem q1412 {s : State} {a : Array Value} (h : mT s) : (Jvm.Cond.instanceMethod ({ cls := "ShareVault", name := "restore", desc := "()I" } : Jvm.MethodName)).before a s = true := h _ (tin6 (List.mem_of_getElem? (l := tables_1_6) (i := 212) rfl)) rfl a
set_option maxRecDepth 100000 in
theorem q1413 {s : State} {a : Array Value} (h : mT s) : (Jvm.Cond.selects "ShareVault" ({ cls := "ShareVault", name := "restore", desc := "()I" } : Jvm.MethodName) ({ cls := "ShareVault", name := "restore", desc := "()I" } : Jvm.MethodName)).before a s = true := h _ (tin6 (List.mem_of_getElem? (l := tables_1_6) (i := 213) rfl)) rfl a
section HCALL
variable {p : Program} {l : Launch} {e : Env} {R : Room} {s : State} {m : MethodId} {args : Array Value} {below : List Frame} {meth : Method} {c : Code} {H : Heap} {locs : List Loc} {cells slots mc ms : Nat} {Q : State → Prop}
variable {cc : ByteArray} {pc : Nat} {ls : Array Slot} {rest : List Value} {w : WD} {M M1 : Mem} {o : Nat} {cL : ClassId} {x : Int64}
variable {y : MethodName} {bytes : ByteArray} {maxL nL n idx : Nat} {ret : Option FieldType} {rm : Room} {own C : String} {b : Nat} {As : List Value} {oc : Nat ⊕ Option Value}
theorem h_call (hx : p.tables.exec = Jvm.exec) (hb : c.code = cc) (hml : c.maxLocals = nL) (hown : s.vm.findClass own = some m.cls) (hI0 : hI w s H locs o cL x M)
    (hM : mMetx l y bytes maxL ret rm w H.size M (.ref b :: As) oc M1 mc ms) (hcb : CallB R s args own idx y bytes maxL ret [Cond.code y bytes maxL ret] rm mc ms n) (hin : (Cond.instanceMethod y).before args s = true) (hse : (Cond.selects C y y).before args s = true)
    (hrc : ∃ cell : Cell, H[b]? = some cell ∧ cell.vm.isStatics = false ∧ s.vm.findClass C = some cell.cls) (hn : As.length = n) (hsize : ls.size = nL) (hW : (rest.map fun v => v.category).sum ≤ 8) (hdg : decode cc pc = .ok (.invokevirtual idx, 3)) (hf : cells + mc ≤ R.cells ∧ slots + ms ≤ R.slots)
    (kr : ∀ (v : Option Value), oc = .inr v → ∀ (H1 : Heap) (locs1 : List Loc), hI w s H1 locs1 o cL x M1 → W p l e R s m args below meth c H1 locs1 (cells + mc) (slots + ms) Q (F0 m (pc + 3) ls (v.toList ++ rest)))
    (kx : ∀ (n : Nat), oc = .inl n → ∀ (ce : Cell) (q : Addr) (H1 : Heap) (locs1 : List Loc), hI w s H1 locs1 o cL x M1 → H1[q]? = some ce → ce.vm = .none → s.vm.findClass (mXn n) = some ce.cls → vx_W p l e R s m args below meth c H1 locs1 (cells + mc) (slots + ms) Q (F0 m pc ls rest) q) : W p l e R s m args below meth c H locs cells slots Q (F0 m pc ls (As.reverse ++ .ref b :: rest)) :=
  h_after (vx_runV (g := F0 m pc ls (As.reverse ++ .ref b :: rest)) (Ts := []) (As := As) (rest := rest) ⟨hx, hb, hml, hown, fun _ h => nomatch h⟩ hM ⟨hcb, hin, hse⟩ ⟨mPre.blind, hrc, fun U hU hW => ⟨rfl, by rw [hU], hI0.1.pre hU hW⟩⟩ rfl hn hsize rfl (lv_room hW) hdg ⟨hf.1, hf.2⟩) hI0 kr kx
end HCALL
/-- what a helper answers: 0 and the answer laid down, or the place of the exception among those caught -/
def hRes (es : List (Nat × Int32)) (f : Int32 → Int64) (x : Int64) : Nat ⊕ Int32 → Int32 → Int64 → Prop
  | .inr v, k, y => k = 0 ∧ y = f v
  | .inl n, k, y => y = x ∧ (n, k) ∈ es
set_option maxRecDepth 100000 in
theorem h_addHolder (l : Launch) (w : WD) (hsf : l.stackTraces = false) (sz o : Nat) (cL : ClassId) (x : Int64) (M : Mem) (r : Nat ⊕ Int32) (M9 : Mem) (hf : f_X11_addHolder M = some (r, M9)) (k : Int32) (y1 : Int64) (hres : hRes [(3, 1)] (fun v => v.toInt64) x r k y1) : hMet l yL_addHolder cL_addHolder 3 [(0, 8, 11, 13)] { frames := 10, cells := 1, slots := 6, locals := 182 } w sz o cL x M [.ref (w.1 12 16), .ref o] k y1 M9 1 6 := by
  refine h_of (by decide) (Nat.le_of_ble_eq_true rfl) ?_
  intro p e s m args below meth c hx hb hr hml hxt hown hlk hI ls hl
  have hl : lv_has ls 3 [(0, .ref (w.1 12 16)), (1, .ref o)] := hl
  refine lv_aload_n hx hb dL_addHolder_0 rfl (lv_at hl 1 rfl) ?_
  refine lv_iconst (v := 0) hx hb dL_addHolder_1 (by decide) ?_
  refine lv_aload_n hx hb dL_addHolder_2 rfl (lv_at hl 0 rfl) ?_
  refine h_call (As := []) (rest := [.int 0, .ref o]) hx hb hml hown hI (c_X11_addHolder l w hsf s.heap.size M r M9 hf) (kb_X11_addHolder hI.1.T (q563 hI.1.T) (Nat.le_of_ble_eq_true rfl) (Nat.le_of_ble_eq_true rfl)) (q564 hI.1.T) (q565 hI.1.T) (m_recv hI.1 (mokX (by decide) (by decide)) rfl rfl) rfl hl.1 (Nat.le_of_ble_eq_true rfl) dL_addHolder_3 ⟨(Nat.le_of_ble_eq_true rfl), (Nat.le_of_ble_eq_true rfl)⟩ (fun v hv H locs hI => ?_) (fun n hn ce q H locs hI hc1 hc2 hc3 => ?_)
  · obtain ⟨v9, rfl, rfl⟩ : ∃ v9, r = .inr v9 ∧ v = some (.int v9) := by
      rcases r with n9 | v9
      · cases hv
      · cases hv; exact ⟨v9, rfl, rfl⟩
    obtain ⟨rfl, rfl⟩ := hres
    refine lv_i2l (v := v9.toInt64) hx hb dL_addHolder_6 rfl ?_
    refine h_last hx hb hI dL_addHolder_7 (fun H locs hI => ?_)
    refine lv_goto (tgt := 14) hx hb dL_addHolder_8 (by decide) ?_
    refine lv_iconst (v := 0) hx hb dL_addHolder_14 (by decide) ?_
    exact h_iret hx hb hr hlk hI (Nat.le_of_ble_eq_true rfl) (Nat.le_of_ble_eq_true rfl) dL_addHolder_15
  · obtain rfl : r = .inl n := by
      rcases r with n9 | v9
      · cases hn; rfl
      · cases hn
    obtain ⟨rfl, hk⟩ := hres
    simp only [List.mem_cons, List.not_mem_nil, or_false, Prod.mk.injEq] at hk
    obtain ⟨rfl, rfl⟩ := hk
    refine vx_catch hown [] ⟨0, 8, 11, 13⟩ [] hxt (fun z hz => nomatch hz) (by decide) (by decide) (q562 hI.1.T) (q691 hI.1.T) hc1 hc2 hc3 ?_
    refine lv_astore_n hx hb dL_addHolder_11 rfl hl (by decide) rfl (fun ls hl => ?_)
    refine lv_iconst (v := 1) hx hb dL_addHolder_12 (by decide) ?_
    exact h_iret hx hb hr hlk hI (Nat.le_of_ble_eq_true rfl) (Nat.le_of_ble_eq_true rfl) dL_addHolder_13
set_option maxRecDepth 100000 in
theorem h_seal (l : Launch) (w : WD) (hsf : l.stackTraces = false) (sz o : Nat) (cL : ClassId) (x : Int64) (a1 : Int32) (a2 : Int32) (a3 : Int32) (a4 : Int32) (M : Mem) (r : Nat ⊕ Int32) (M9 : Mem) (hf : f_X11_seal a1 a2 a3 a4 M = some (r, M9)) (k : Int32) (y1 : Int64) (hres : hRes [(2, 1), (3, 2)] (fun v => v.toInt64) x r k y1) : hMet l yL_seal cL_seal 7 [(0, 14, 17, 19), (0, 14, 21, 13)] { frames := 10, cells := 1, slots := 6, locals := 186 } w sz o cL x M [.ref (w.1 12 16), .int a1, .int a2, .int a3, .int a4, .ref o] k y1 M9 1 6 := by
  refine h_of (by decide) (Nat.le_of_ble_eq_true rfl) ?_
  intro p e s m args below meth c hx hb hr hml hxt hown hlk hI ls hl
  have hl : lv_has ls 7 [(0, .ref (w.1 12 16)), (1, .int a1), (2, .int a2), (3, .int a3), (4, .int a4), (5, .ref o)] := hl
  refine lv_aload hx hb dL_seal_0 (lv_at hl 5 rfl) ?_
  refine lv_iconst (v := 0) hx hb dL_seal_2 (by decide) ?_
  refine lv_aload_n hx hb dL_seal_3 rfl (lv_at hl 0 rfl) ?_
  refine lv_iload_n hx hb dL_seal_4 rfl (lv_at hl 1 rfl) ?_
  refine lv_iload_n hx hb dL_seal_5 rfl (lv_at hl 2 rfl) ?_
  refine lv_iload_n hx hb dL_seal_6 rfl (lv_at hl 3 rfl) ?_
  refine lv_iload hx hb dL_seal_7 (lv_at hl 4 rfl) ?_
  refine h_call (As := [.int a1, .int a2, .int a3, .int a4]) (rest := [.int 0, .ref o]) hx hb hml hown hI (c_X11_seal l w hsf s.heap.size a1 a2 a3 a4 M r M9 hf) (kb_X11_seal hI.1.T (q714 hI.1.T) (Nat.le_of_ble_eq_true rfl) (Nat.le_of_ble_eq_true rfl)) (q715 hI.1.T) (q716 hI.1.T) (m_recv hI.1 (mokX (by decide) (by decide)) rfl rfl) rfl hl.1 (Nat.le_of_ble_eq_true rfl) dL_seal_9 ⟨(Nat.le_of_ble_eq_true rfl), (Nat.le_of_ble_eq_true rfl)⟩ (fun v hv H locs hI => ?_) (fun n hn ce q H locs hI hc1 hc2 hc3 => ?_)
  · obtain ⟨v9, rfl, rfl⟩ : ∃ v9, r = .inr v9 ∧ v = some (.int v9) := by
      rcases r with n9 | v9
      · cases hv
      · cases hv; exact ⟨v9, rfl, rfl⟩
    obtain ⟨rfl, rfl⟩ := hres
    refine lv_i2l (v := v9.toInt64) hx hb dL_seal_12 rfl ?_
    refine h_last hx hb hI dL_seal_13 (fun H locs hI => ?_)
    refine lv_goto (tgt := 25) hx hb dL_seal_14 (by decide) ?_
    refine lv_iconst (v := 0) hx hb dL_seal_25 (by decide) ?_
    exact h_iret hx hb hr hlk hI (Nat.le_of_ble_eq_true rfl) (Nat.le_of_ble_eq_true rfl) dL_seal_26
  · obtain rfl : r = .inl n := by
      rcases r with n9 | v9
      · cases hn; rfl
      · cases hn
    obtain ⟨rfl, hk⟩ := hres
    simp only [List.mem_cons, List.not_mem_nil, or_false, Prod.mk.injEq] at hk
    rcases hk with ⟨rfl, rfl⟩ | ⟨rfl, rfl⟩
    · refine vx_catch hown [] ⟨0, 14, 17, 19⟩ [⟨0, 14, 21, 13⟩] hxt (fun z hz => nomatch hz) (by decide) (by decide) (q713 hI.1.T) (q663 hI.1.T) hc1 hc2 hc3 ?_
      refine lv_astore hx hb dL_seal_17 hl (by decide) rfl (fun ls hl => ?_)
      refine lv_iconst (v := 1) hx hb dL_seal_19 (by decide) ?_
      exact h_iret hx hb hr hlk hI (Nat.le_of_ble_eq_true rfl) (Nat.le_of_ble_eq_true rfl) dL_seal_20
    · refine vx_catch hown [⟨0, 14, 17, 19⟩] ⟨0, 14, 21, 13⟩ [] hxt (fun z hz => by rcases List.mem_cons.mp hz with rfl | hz; exact Or.inr ⟨by decide, _, (q713 hI.1.T), hI.1.nc (i := 3) (j := 2) (by decide) (by decide) (by decide) (by decide) (by decide)⟩; exact nomatch hz) (by decide) (by decide) (q562 hI.1.T) (q691 hI.1.T) hc1 hc2 hc3 ?_
      refine lv_astore hx hb dL_seal_21 hl (by decide) rfl (fun ls hl => ?_)
      refine lv_iconst (v := 2) hx hb dL_seal_23 (by decide) ?_
      exact h_iret hx hb hr hlk hI (Nat.le_of_ble_eq_true rfl) (Nat.le_of_ble_eq_true rfl) dL_seal_24
set_option maxRecDepth 100000 in
theorem h_setShare (l : Launch) (w : WD) (hsf : l.stackTraces = false) (sz o : Nat) (cL : ClassId) (x : Int64) (a1 : Int32) (a2 : Int32) (M : Mem) (r : Nat ⊕ Int32) (M9 : Mem) (hf : f_X11_setShare a1 a2 M = some (r, M9)) (k : Int32) (y1 : Int64) (hres : hRes [(1, 1), (2, 2), (3, 3)] (fun v => v.toInt64) x r k y1) : hMet l yL_setShare cL_setShare 5 [(0, 10, 13, 25), (0, 10, 17, 19), (0, 10, 21, 13)] { frames := 10, cells := 1, slots := 6, locals := 184 } w sz o cL x M [.ref (w.1 12 16), .int a1, .int a2, .ref o] k y1 M9 1 6 := by
  refine h_of (by decide) (Nat.le_of_ble_eq_true rfl) ?_
  intro p e s m args below meth c hx hb hr hml hxt hown hlk hI ls hl
  have hl : lv_has ls 5 [(0, .ref (w.1 12 16)), (1, .int a1), (2, .int a2), (3, .ref o)] := hl
  refine lv_aload_n hx hb dL_setShare_0 rfl (lv_at hl 3 rfl) ?_
  refine lv_iconst (v := 0) hx hb dL_setShare_1 (by decide) ?_
  refine lv_aload_n hx hb dL_setShare_2 rfl (lv_at hl 0 rfl) ?_
  refine lv_iload_n hx hb dL_setShare_3 rfl (lv_at hl 1 rfl) ?_
  refine lv_iload_n hx hb dL_setShare_4 rfl (lv_at hl 2 rfl) ?_
  refine h_call (As := [.int a1, .int a2]) (rest := [.int 0, .ref o]) hx hb hml hown hI (c_X11_setShare l w hsf s.heap.size a1 a2 M r M9 hf) (kb_X11_setShare hI.1.T (q757 hI.1.T) (Nat.le_of_ble_eq_true rfl) (Nat.le_of_ble_eq_true rfl)) (q758 hI.1.T) (q759 hI.1.T) (m_recv hI.1 (mokX (by decide) (by decide)) rfl rfl) rfl hl.1 (Nat.le_of_ble_eq_true rfl) dL_setShare_5 ⟨(Nat.le_of_ble_eq_true rfl), (Nat.le_of_ble_eq_true rfl)⟩ (fun v hv H locs hI => ?_) (fun n hn ce q H locs hI hc1 hc2 hc3 => ?_)
  · obtain ⟨v9, rfl, rfl⟩ : ∃ v9, r = .inr v9 ∧ v = some (.int v9) := by
      rcases r with n9 | v9
      · cases hv
      · cases hv; exact ⟨v9, rfl, rfl⟩
    obtain ⟨rfl, rfl⟩ := hres
    refine lv_i2l (v := v9.toInt64) hx hb dL_setShare_8 rfl ?_
    refine h_last hx hb hI dL_setShare_9 (fun H locs hI => ?_)
    refine lv_goto (tgt := 25) hx hb dL_setShare_10 (by decide) ?_
    refine lv_iconst (v := 0) hx hb dL_setShare_25 (by decide) ?_
    exact h_iret hx hb hr hlk hI (Nat.le_of_ble_eq_true rfl) (Nat.le_of_ble_eq_true rfl) dL_setShare_26
  · obtain rfl : r = .inl n := by
      rcases r with n9 | v9
      · cases hn; rfl
      · cases hn
    obtain ⟨rfl, hk⟩ := hres
    simp only [List.mem_cons, List.not_mem_nil, or_false, Prod.mk.injEq] at hk
    rcases hk with ⟨rfl, rfl⟩ | ⟨rfl, rfl⟩ | ⟨rfl, rfl⟩
    · refine vx_catch hown [] ⟨0, 10, 13, 25⟩ [⟨0, 10, 17, 19⟩, ⟨0, 10, 21, 13⟩] hxt (fun z hz => nomatch hz) (by decide) (by decide) (q736 hI.1.T) (q591 hI.1.T) hc1 hc2 hc3 ?_
      refine lv_astore hx hb dL_setShare_13 hl (by decide) rfl (fun ls hl => ?_)
      refine lv_iconst (v := 1) hx hb dL_setShare_15 (by decide) ?_
      exact h_iret hx hb hr hlk hI (Nat.le_of_ble_eq_true rfl) (Nat.le_of_ble_eq_true rfl) dL_setShare_16
    · refine vx_catch hown [⟨0, 10, 13, 25⟩] ⟨0, 10, 17, 19⟩ [⟨0, 10, 21, 13⟩] hxt (fun z hz => by rcases List.mem_cons.mp hz with rfl | hz; exact Or.inr ⟨by decide, _, (q736 hI.1.T), hI.1.nc (i := 2) (j := 1) (by decide) (by decide) (by decide) (by decide) (by decide)⟩; exact nomatch hz) (by decide) (by decide) (q713 hI.1.T) (q663 hI.1.T) hc1 hc2 hc3 ?_
      refine lv_astore hx hb dL_setShare_17 hl (by decide) rfl (fun ls hl => ?_)
      refine lv_iconst (v := 2) hx hb dL_setShare_19 (by decide) ?_
      exact h_iret hx hb hr hlk hI (Nat.le_of_ble_eq_true rfl) (Nat.le_of_ble_eq_true rfl) dL_setShare_20
    · refine vx_catch hown [⟨0, 10, 13, 25⟩, ⟨0, 10, 17, 19⟩] ⟨0, 10, 21, 13⟩ [] hxt (fun z hz => by rcases List.mem_cons.mp hz with rfl | hz; exact Or.inr ⟨by decide, _, (q736 hI.1.T), hI.1.nc (i := 3) (j := 1) (by decide) (by decide) (by decide) (by decide) (by decide)⟩; rcases List.mem_cons.mp hz with rfl | hz; exact Or.inr ⟨by decide, _, (q713 hI.1.T), hI.1.nc (i := 3) (j := 2) (by decide) (by decide) (by decide) (by decide) (by decide)⟩; exact nomatch hz) (by decide) (by decide) (q562 hI.1.T) (q691 hI.1.T) hc1 hc2 hc3 ?_
      refine lv_astore hx hb dL_setShare_21 hl (by decide) rfl (fun ls hl => ?_)
      refine lv_iconst (v := 3) hx hb dL_setShare_23 (by decide) ?_
      exact h_iret hx hb hr hlk hI (Nat.le_of_ble_eq_true rfl) (Nat.le_of_ble_eq_true rfl) dL_setShare_24
set_option maxRecDepth 100000 in
theorem h_present (l : Launch) (w : WD) (hsf : l.stackTraces = false) (sz o : Nat) (cL : ClassId) (x : Int64) (a1 : Int32) (M : Mem) (r : Nat ⊕ Int32) (M9 : Mem) (hf : f_X11_present a1 M = some (r, M9)) (k : Int32) (y1 : Int64) (hres : hRes [(1, 1), (3, 2)] (fun v => v.toInt64) x r k y1) : hMet l yL_present cL_present 4 [(0, 9, 12, 25), (0, 9, 15, 13)] { frames := 10, cells := 1, slots := 6, locals := 183 } w sz o cL x M [.ref (w.1 12 16), .int a1, .ref o] k y1 M9 1 6 := by
  refine h_of (by decide) (Nat.le_of_ble_eq_true rfl) ?_
  intro p e s m args below meth c hx hb hr hml hxt hown hlk hI ls hl
  have hl : lv_has ls 4 [(0, .ref (w.1 12 16)), (1, .int a1), (2, .ref o)] := hl
  refine lv_aload_n hx hb dL_present_0 rfl (lv_at hl 2 rfl) ?_
  refine lv_iconst (v := 0) hx hb dL_present_1 (by decide) ?_
  refine lv_aload_n hx hb dL_present_2 rfl (lv_at hl 0 rfl) ?_
  refine lv_iload_n hx hb dL_present_3 rfl (lv_at hl 1 rfl) ?_
  refine h_call (As := [.int a1]) (rest := [.int 0, .ref o]) hx hb hml hown hI (c_X11_present l w hsf s.heap.size a1 M r M9 hf) (kb_X11_present hI.1.T (q772 hI.1.T) (Nat.le_of_ble_eq_true rfl) (Nat.le_of_ble_eq_true rfl)) (q773 hI.1.T) (q774 hI.1.T) (m_recv hI.1 (mokX (by decide) (by decide)) rfl rfl) rfl hl.1 (Nat.le_of_ble_eq_true rfl) dL_present_4 ⟨(Nat.le_of_ble_eq_true rfl), (Nat.le_of_ble_eq_true rfl)⟩ (fun v hv H locs hI => ?_) (fun n hn ce q H locs hI hc1 hc2 hc3 => ?_)
  · obtain ⟨v9, rfl, rfl⟩ : ∃ v9, r = .inr v9 ∧ v = some (.int v9) := by
      rcases r with n9 | v9
      · cases hv
      · cases hv; exact ⟨v9, rfl, rfl⟩
    obtain ⟨rfl, rfl⟩ := hres
    refine lv_i2l (v := v9.toInt64) hx hb dL_present_7 rfl ?_
    refine h_last hx hb hI dL_present_8 (fun H locs hI => ?_)
    refine lv_goto (tgt := 18) hx hb dL_present_9 (by decide) ?_
    refine lv_iconst (v := 0) hx hb dL_present_18 (by decide) ?_
    exact h_iret hx hb hr hlk hI (Nat.le_of_ble_eq_true rfl) (Nat.le_of_ble_eq_true rfl) dL_present_19
  · obtain rfl : r = .inl n := by
      rcases r with n9 | v9
      · cases hn; rfl
      · cases hn
    obtain ⟨rfl, hk⟩ := hres
    simp only [List.mem_cons, List.not_mem_nil, or_false, Prod.mk.injEq] at hk
    rcases hk with ⟨rfl, rfl⟩ | ⟨rfl, rfl⟩
    · refine vx_catch hown [] ⟨0, 9, 12, 25⟩ [⟨0, 9, 15, 13⟩] hxt (fun z hz => nomatch hz) (by decide) (by decide) (q736 hI.1.T) (q591 hI.1.T) hc1 hc2 hc3 ?_
      refine lv_astore_n hx hb dL_present_12 rfl hl (by decide) rfl (fun ls hl => ?_)
      refine lv_iconst (v := 1) hx hb dL_present_13 (by decide) ?_
      exact h_iret hx hb hr hlk hI (Nat.le_of_ble_eq_true rfl) (Nat.le_of_ble_eq_true rfl) dL_present_14
    · refine vx_catch hown [⟨0, 9, 12, 25⟩] ⟨0, 9, 15, 13⟩ [] hxt (fun z hz => by rcases List.mem_cons.mp hz with rfl | hz; exact Or.inr ⟨by decide, _, (q736 hI.1.T), hI.1.nc (i := 3) (j := 1) (by decide) (by decide) (by decide) (by decide) (by decide)⟩; exact nomatch hz) (by decide) (by decide) (q562 hI.1.T) (q691 hI.1.T) hc1 hc2 hc3 ?_
      refine lv_astore_n hx hb dL_present_15 rfl hl (by decide) rfl (fun ls hl => ?_)
      refine lv_iconst (v := 2) hx hb dL_present_16 (by decide) ?_
      exact h_iret hx hb hr hlk hI (Nat.le_of_ble_eq_true rfl) (Nat.le_of_ble_eq_true rfl) dL_present_17
set_option maxRecDepth 100000 in
theorem h_takeBack (l : Launch) (w : WD) (hsf : l.stackTraces = false) (sz o : Nat) (cL : ClassId) (x : Int64) (a1 : Int32) (M : Mem) (r : Nat ⊕ Int32) (M9 : Mem) (hf : f_X11_takeBack a1 M = some (r, M9)) (k : Int32) (y1 : Int64) (hres : hRes [(1, 1), (3, 2)] (fun v => v.toInt64) x r k y1) : hMet l yL_takeBack cL_takeBack 4 [(0, 9, 12, 25), (0, 9, 15, 13)] { frames := 10, cells := 1, slots := 6, locals := 183 } w sz o cL x M [.ref (w.1 12 16), .int a1, .ref o] k y1 M9 1 6 := by
  refine h_of (by decide) (Nat.le_of_ble_eq_true rfl) ?_
  intro p e s m args below meth c hx hb hr hml hxt hown hlk hI ls hl
  have hl : lv_has ls 4 [(0, .ref (w.1 12 16)), (1, .int a1), (2, .ref o)] := hl
  refine lv_aload_n hx hb dL_takeBack_0 rfl (lv_at hl 2 rfl) ?_
  refine lv_iconst (v := 0) hx hb dL_takeBack_1 (by decide) ?_
  refine lv_aload_n hx hb dL_takeBack_2 rfl (lv_at hl 0 rfl) ?_
  refine lv_iload_n hx hb dL_takeBack_3 rfl (lv_at hl 1 rfl) ?_
  refine h_call (As := [.int a1]) (rest := [.int 0, .ref o]) hx hb hml hown hI (c_X11_takeBack l w hsf s.heap.size a1 M r M9 hf) (kb_X11_takeBack hI.1.T (q787 hI.1.T) (Nat.le_of_ble_eq_true rfl) (Nat.le_of_ble_eq_true rfl)) (q788 hI.1.T) (q789 hI.1.T) (m_recv hI.1 (mokX (by decide) (by decide)) rfl rfl) rfl hl.1 (Nat.le_of_ble_eq_true rfl) dL_takeBack_4 ⟨(Nat.le_of_ble_eq_true rfl), (Nat.le_of_ble_eq_true rfl)⟩ (fun v hv H locs hI => ?_) (fun n hn ce q H locs hI hc1 hc2 hc3 => ?_)
  · obtain ⟨v9, rfl, rfl⟩ : ∃ v9, r = .inr v9 ∧ v = some (.int v9) := by
      rcases r with n9 | v9
      · cases hv
      · cases hv; exact ⟨v9, rfl, rfl⟩
    obtain ⟨rfl, rfl⟩ := hres
    refine lv_i2l (v := v9.toInt64) hx hb dL_takeBack_7 rfl ?_
    refine h_last hx hb hI dL_takeBack_8 (fun H locs hI => ?_)
    refine lv_goto (tgt := 18) hx hb dL_takeBack_9 (by decide) ?_
    refine lv_iconst (v := 0) hx hb dL_takeBack_18 (by decide) ?_
    exact h_iret hx hb hr hlk hI (Nat.le_of_ble_eq_true rfl) (Nat.le_of_ble_eq_true rfl) dL_takeBack_19
  · obtain rfl : r = .inl n := by
      rcases r with n9 | v9
      · cases hn; rfl
      · cases hn
    obtain ⟨rfl, hk⟩ := hres
    simp only [List.mem_cons, List.not_mem_nil, or_false, Prod.mk.injEq] at hk
    rcases hk with ⟨rfl, rfl⟩ | ⟨rfl, rfl⟩
    · refine vx_catch hown [] ⟨0, 9, 12, 25⟩ [⟨0, 9, 15, 13⟩] hxt (fun z hz => nomatch hz) (by decide) (by decide) (q736 hI.1.T) (q591 hI.1.T) hc1 hc2 hc3 ?_
      refine lv_astore_n hx hb dL_takeBack_12 rfl hl (by decide) rfl (fun ls hl => ?_)
      refine lv_iconst (v := 1) hx hb dL_takeBack_13 (by decide) ?_
      exact h_iret hx hb hr hlk hI (Nat.le_of_ble_eq_true rfl) (Nat.le_of_ble_eq_true rfl) dL_takeBack_14
    · refine vx_catch hown [⟨0, 9, 12, 25⟩] ⟨0, 9, 15, 13⟩ [] hxt (fun z hz => by rcases List.mem_cons.mp hz with rfl | hz; exact Or.inr ⟨by decide, _, (q736 hI.1.T), hI.1.nc (i := 3) (j := 1) (by decide) (by decide) (by decide) (by decide) (by decide)⟩; exact nomatch hz) (by decide) (by decide) (q562 hI.1.T) (q691 hI.1.T) hc1 hc2 hc3 ?_
      refine lv_astore_n hx hb dL_takeBack_15 rfl hl (by decide) rfl (fun ls hl => ?_)
      refine lv_iconst (v := 2) hx hb dL_takeBack_16 (by decide) ?_
      exact h_iret hx hb hr hlk hI (Nat.le_of_ble_eq_true rfl) (Nat.le_of_ble_eq_true rfl) dL_takeBack_17
set_option maxRecDepth 100000 in
theorem h_openVault (l : Launch) (w : WD) (hsf : l.stackTraces = false) (sz o : Nat) (cL : ClassId) (x : Int64) (M : Mem) (r : Nat ⊕ Int32) (M9 : Mem) (hf : f_X11_openVault M = some (r, M9)) (k : Int32) (y1 : Int64) (hres : hRes [(3, 1)] (fun v => if v = 0 then 0 else 1) x r k y1) : hMet l yL_openVault cL_openVault 3 [(0, 15, 18, 13)] { frames := 10, cells := 1, slots := 6, locals := 182 } w sz o cL x M [.ref (w.1 12 16), .ref o] k y1 M9 1 6 := by
  refine h_of (by decide) (Nat.le_of_ble_eq_true rfl) ?_
  intro p e s m args below meth c hx hb hr hml hxt hown hlk hI ls hl
  have hl : lv_has ls 3 [(0, .ref (w.1 12 16)), (1, .ref o)] := hl
  refine lv_aload_n hx hb dL_openVault_0 rfl (lv_at hl 1 rfl) ?_
  refine lv_iconst (v := 0) hx hb dL_openVault_1 (by decide) ?_
  refine lv_aload_n hx hb dL_openVault_2 rfl (lv_at hl 0 rfl) ?_
  refine h_call (As := []) (rest := [.int 0, .ref o]) hx hb hml hown hI (c_X11_openVault l w hsf s.heap.size M r M9 hf) (kb_X11_openVault hI.1.T (q802 hI.1.T) (Nat.le_of_ble_eq_true rfl) (Nat.le_of_ble_eq_true rfl)) (q803 hI.1.T) (q804 hI.1.T) (m_recv hI.1 (mokX (by decide) (by decide)) rfl rfl) rfl hl.1 (Nat.le_of_ble_eq_true rfl) dL_openVault_3 ⟨(Nat.le_of_ble_eq_true rfl), (Nat.le_of_ble_eq_true rfl)⟩ (fun v hv H locs hI => ?_) (fun n hn ce q H locs hI hc1 hc2 hc3 => ?_)
  · obtain ⟨v9, rfl, rfl⟩ : ∃ v9, r = .inr v9 ∧ v = some (.int v9) := by
      rcases r with n9 | v9
      · cases hv
      · cases hv; exact ⟨v9, rfl, rfl⟩
    obtain ⟨rfl, rfl⟩ := hres
    refine lv_if_eq (tgt := 13) hx hb dL_openVault_6 (by decide) (fun c2 => ?_) (fun c2 => ?_)
    · have e2 : (if v9 = 0 then (0 : Int64) else 1) = 0 := if_pos c2
      rw [show (fun v : Int32 => if v = 0 then (0 : Int64) else 1) v9 = 0 from e2]
      refine lv_lconst (v := 0) hx hb dL_openVault_13 (by decide) ?_
      refine h_last hx hb hI dL_openVault_14 (fun H locs hI => ?_)
      refine lv_goto (tgt := 21) hx hb dL_openVault_15 (by decide) ?_
      refine lv_iconst (v := 0) hx hb dL_openVault_21 (by decide) ?_
      exact h_iret hx hb hr hlk hI (Nat.le_of_ble_eq_true rfl) (Nat.le_of_ble_eq_true rfl) dL_openVault_22
    · have e2 : (if v9 = 0 then (0 : Int64) else 1) = 1 := if_neg c2
      rw [show (fun v : Int32 => if v = 0 then (0 : Int64) else 1) v9 = 1 from e2]
      refine lv_lconst (v := 1) hx hb dL_openVault_9 (by decide) ?_
      refine lv_goto (tgt := 14) hx hb dL_openVault_10 (by decide) ?_
      refine h_last hx hb hI dL_openVault_14 (fun H locs hI => ?_)
      refine lv_goto (tgt := 21) hx hb dL_openVault_15 (by decide) ?_
      refine lv_iconst (v := 0) hx hb dL_openVault_21 (by decide) ?_
      exact h_iret hx hb hr hlk hI (Nat.le_of_ble_eq_true rfl) (Nat.le_of_ble_eq_true rfl) dL_openVault_22
  · obtain rfl : r = .inl n := by
      rcases r with n9 | v9
      · cases hn; rfl
      · cases hn
    obtain ⟨rfl, hk⟩ := hres
    simp only [List.mem_cons, List.not_mem_nil, or_false, Prod.mk.injEq] at hk
    obtain ⟨rfl, rfl⟩ := hk
    refine vx_catch hown [] ⟨0, 15, 18, 13⟩ [] hxt (fun z hz => nomatch hz) (by decide) (by decide) (q562 hI.1.T) (q691 hI.1.T) hc1 hc2 hc3 ?_
    refine lv_astore_n hx hb dL_openVault_18 rfl hl (by decide) rfl (fun ls hl => ?_)
    refine lv_iconst (v := 1) hx hb dL_openVault_19 (by decide) ?_
    exact h_iret hx hb hr hlk hI (Nat.le_of_ble_eq_true rfl) (Nat.le_of_ble_eq_true rfl) dL_openVault_20
set_option maxRecDepth 100000 in
theorem h_closeVault (l : Launch) (w : WD) (hsf : l.stackTraces = false) (sz o : Nat) (cL : ClassId) (x : Int64) (M : Mem) (r : Nat ⊕ Int32) (M9 : Mem) (hf : f_X11_closeVault M = some (r, M9)) (k : Int32) (y1 : Int64) (hres : hRes [(3, 1)] (fun v => v.toInt64) x r k y1) : hMet l yL_closeVault cL_closeVault 3 [(0, 8, 11, 13)] { frames := 10, cells := 1, slots := 6, locals := 182 } w sz o cL x M [.ref (w.1 12 16), .ref o] k y1 M9 1 6 := by
  refine h_of (by decide) (Nat.le_of_ble_eq_true rfl) ?_
  intro p e s m args below meth c hx hb hr hml hxt hown hlk hI ls hl
  have hl : lv_has ls 3 [(0, .ref (w.1 12 16)), (1, .ref o)] := hl
  refine lv_aload_n hx hb dL_closeVault_0 rfl (lv_at hl 1 rfl) ?_
  refine lv_iconst (v := 0) hx hb dL_closeVault_1 (by decide) ?_
  refine lv_aload_n hx hb dL_closeVault_2 rfl (lv_at hl 0 rfl) ?_
  refine h_call (As := []) (rest := [.int 0, .ref o]) hx hb hml hown hI (c_X11_closeVault l w hsf s.heap.size M r M9 hf) (kb_X11_closeVault hI.1.T (q841 hI.1.T) (Nat.le_of_ble_eq_true rfl) (Nat.le_of_ble_eq_true rfl)) (q842 hI.1.T) (q843 hI.1.T) (m_recv hI.1 (mokX (by decide) (by decide)) rfl rfl) rfl hl.1 (Nat.le_of_ble_eq_true rfl) dL_closeVault_3 ⟨(Nat.le_of_ble_eq_true rfl), (Nat.le_of_ble_eq_true rfl)⟩ (fun v hv H locs hI => ?_) (fun n hn ce q H locs hI hc1 hc2 hc3 => ?_)
  · obtain ⟨v9, rfl, rfl⟩ : ∃ v9, r = .inr v9 ∧ v = some (.int v9) := by
      rcases r with n9 | v9
      · cases hv
      · cases hv; exact ⟨v9, rfl, rfl⟩
    obtain ⟨rfl, rfl⟩ := hres
    refine lv_i2l (v := v9.toInt64) hx hb dL_closeVault_6 rfl ?_
    refine h_last hx hb hI dL_closeVault_7 (fun H locs hI => ?_)
    refine lv_goto (tgt := 14) hx hb dL_closeVault_8 (by decide) ?_
    refine lv_iconst (v := 0) hx hb dL_closeVault_14 (by decide) ?_
    exact h_iret hx hb hr hlk hI (Nat.le_of_ble_eq_true rfl) (Nat.le_of_ble_eq_true rfl) dL_closeVault_15
  · obtain rfl : r = .inl n := by
      rcases r with n9 | v9
      · cases hn; rfl
      · cases hn
    obtain ⟨rfl, hk⟩ := hres
    simp only [List.mem_cons, List.not_mem_nil, or_false, Prod.mk.injEq] at hk
    obtain ⟨rfl, rfl⟩ := hk
    refine vx_catch hown [] ⟨0, 8, 11, 13⟩ [] hxt (fun z hz => nomatch hz) (by decide) (by decide) (q562 hI.1.T) (q691 hI.1.T) hc1 hc2 hc3 ?_
    refine lv_astore_n hx hb dL_closeVault_11 rfl hl (by decide) rfl (fun ls hl => ?_)
    refine lv_iconst (v := 1) hx hb dL_closeVault_12 (by decide) ?_
    exact h_iret hx hb hr hlk hI (Nat.le_of_ble_eq_true rfl) (Nat.le_of_ble_eq_true rfl) dL_closeVault_13
set_option maxRecDepth 100000 in
theorem h_addGuard (l : Launch) (w : WD) (hsf : l.stackTraces = false) (sz o : Nat) (cL : ClassId) (x : Int64) (a1 : Int32) (a2 : Int32) (a3 : Int32) (M : Mem) (r : Nat ⊕ Int32) (M9 : Mem) (hf : f_X11_addGuard a1 a2 a3 M = some (r, M9)) (k : Int32) (y1 : Int64) (hres : hRes [(2, 1), (3, 2)] (fun v => v.toInt64) x r k y1) : hMet l yL_addGuard cL_addGuard 6 [(0, 12, 15, 19), (0, 12, 19, 13)] { frames := 10, cells := 1, slots := 6, locals := 185 } w sz o cL x M [.ref (w.1 12 16), .int a1, .int a2, .int a3, .ref o] k y1 M9 1 6 := by
  refine h_of (by decide) (Nat.le_of_ble_eq_true rfl) ?_
  intro p e s m args below meth c hx hb hr hml hxt hown hlk hI ls hl
  have hl : lv_has ls 6 [(0, .ref (w.1 12 16)), (1, .int a1), (2, .int a2), (3, .int a3), (4, .ref o)] := hl
  refine lv_aload hx hb dL_addGuard_0 (lv_at hl 4 rfl) ?_
  refine lv_iconst (v := 0) hx hb dL_addGuard_2 (by decide) ?_
  refine lv_aload_n hx hb dL_addGuard_3 rfl (lv_at hl 0 rfl) ?_
  refine lv_iload_n hx hb dL_addGuard_4 rfl (lv_at hl 1 rfl) ?_
  refine lv_iload_n hx hb dL_addGuard_5 rfl (lv_at hl 2 rfl) ?_
  refine lv_iload_n hx hb dL_addGuard_6 rfl (lv_at hl 3 rfl) ?_
  refine h_call (As := [.int a1, .int a2, .int a3]) (rest := [.int 0, .ref o]) hx hb hml hown hI (c_X11_addGuard l w hsf s.heap.size a1 a2 a3 M r M9 hf) (kb_X11_addGuard hI.1.T (q852 hI.1.T) (Nat.le_of_ble_eq_true rfl) (Nat.le_of_ble_eq_true rfl)) (q853 hI.1.T) (q854 hI.1.T) (m_recv hI.1 (mokX (by decide) (by decide)) rfl rfl) rfl hl.1 (Nat.le_of_ble_eq_true rfl) dL_addGuard_7 ⟨(Nat.le_of_ble_eq_true rfl), (Nat.le_of_ble_eq_true rfl)⟩ (fun v hv H locs hI => ?_) (fun n hn ce q H locs hI hc1 hc2 hc3 => ?_)
  · obtain ⟨v9, rfl, rfl⟩ : ∃ v9, r = .inr v9 ∧ v = some (.int v9) := by
      rcases r with n9 | v9
      · cases hv
      · cases hv; exact ⟨v9, rfl, rfl⟩
    obtain ⟨rfl, rfl⟩ := hres
    refine lv_i2l (v := v9.toInt64) hx hb dL_addGuard_10 rfl ?_
    refine h_last hx hb hI dL_addGuard_11 (fun H locs hI => ?_)
    refine lv_goto (tgt := 23) hx hb dL_addGuard_12 (by decide) ?_
    refine lv_iconst (v := 0) hx hb dL_addGuard_23 (by decide) ?_
    exact h_iret hx hb hr hlk hI (Nat.le_of_ble_eq_true rfl) (Nat.le_of_ble_eq_true rfl) dL_addGuard_24
  · obtain rfl : r = .inl n := by
      rcases r with n9 | v9
      · cases hn; rfl
      · cases hn
    obtain ⟨rfl, hk⟩ := hres
    simp only [List.mem_cons, List.not_mem_nil, or_false, Prod.mk.injEq] at hk
    rcases hk with ⟨rfl, rfl⟩ | ⟨rfl, rfl⟩
    · refine vx_catch hown [] ⟨0, 12, 15, 19⟩ [⟨0, 12, 19, 13⟩] hxt (fun z hz => nomatch hz) (by decide) (by decide) (q713 hI.1.T) (q663 hI.1.T) hc1 hc2 hc3 ?_
      refine lv_astore hx hb dL_addGuard_15 hl (by decide) rfl (fun ls hl => ?_)
      refine lv_iconst (v := 1) hx hb dL_addGuard_17 (by decide) ?_
      exact h_iret hx hb hr hlk hI (Nat.le_of_ble_eq_true rfl) (Nat.le_of_ble_eq_true rfl) dL_addGuard_18
    · refine vx_catch hown [⟨0, 12, 15, 19⟩] ⟨0, 12, 19, 13⟩ [] hxt (fun z hz => by rcases List.mem_cons.mp hz with rfl | hz; exact Or.inr ⟨by decide, _, (q713 hI.1.T), hI.1.nc (i := 3) (j := 2) (by decide) (by decide) (by decide) (by decide) (by decide)⟩; exact nomatch hz) (by decide) (by decide) (q562 hI.1.T) (q691 hI.1.T) hc1 hc2 hc3 ?_
      refine lv_astore hx hb dL_addGuard_19 hl (by decide) rfl (fun ls hl => ?_)
      refine lv_iconst (v := 2) hx hb dL_addGuard_21 (by decide) ?_
      exact h_iret hx hb hr hlk hI (Nat.le_of_ble_eq_true rfl) (Nat.le_of_ble_eq_true rfl) dL_addGuard_22
set_option maxRecDepth 100000 in
theorem h_turnGuard (l : Launch) (w : WD) (hsf : l.stackTraces = false) (sz o : Nat) (cL : ClassId) (x : Int64) (a1 : Int32) (M : Mem) (r : Nat ⊕ Int32) (M9 : Mem) (hf : f_X11_turnGuard a1 M = some (r, M9)) (k : Int32) (y1 : Int64) (hres : hRes [(1, 1)] (fun v => if v = 0 then 0 else 1) x r k y1) : hMet l yL_turnGuard cL_turnGuard 4 [(0, 16, 19, 25)] { frames := 10, cells := 1, slots := 6, locals := 183 } w sz o cL x M [.ref (w.1 12 16), .int a1, .ref o] k y1 M9 1 6 := by
  refine h_of (by decide) (Nat.le_of_ble_eq_true rfl) ?_
  intro p e s m args below meth c hx hb hr hml hxt hown hlk hI ls hl
  have hl : lv_has ls 4 [(0, .ref (w.1 12 16)), (1, .int a1), (2, .ref o)] := hl
  refine lv_aload_n hx hb dL_turnGuard_0 rfl (lv_at hl 2 rfl) ?_
  refine lv_iconst (v := 0) hx hb dL_turnGuard_1 (by decide) ?_
  refine lv_aload_n hx hb dL_turnGuard_2 rfl (lv_at hl 0 rfl) ?_
  refine lv_iload_n hx hb dL_turnGuard_3 rfl (lv_at hl 1 rfl) ?_
  refine h_call (As := [.int a1]) (rest := [.int 0, .ref o]) hx hb hml hown hI (c_X11_turnGuard l w hsf s.heap.size a1 M r M9 hf) (kb_X11_turnGuard hI.1.T (q870 hI.1.T) (Nat.le_of_ble_eq_true rfl) (Nat.le_of_ble_eq_true rfl)) (q871 hI.1.T) (q872 hI.1.T) (m_recv hI.1 (mokX (by decide) (by decide)) rfl rfl) rfl hl.1 (Nat.le_of_ble_eq_true rfl) dL_turnGuard_4 ⟨(Nat.le_of_ble_eq_true rfl), (Nat.le_of_ble_eq_true rfl)⟩ (fun v hv H locs hI => ?_) (fun n hn ce q H locs hI hc1 hc2 hc3 => ?_)
  · obtain ⟨v9, rfl, rfl⟩ : ∃ v9, r = .inr v9 ∧ v = some (.int v9) := by
      rcases r with n9 | v9
      · cases hv
      · cases hv; exact ⟨v9, rfl, rfl⟩
    obtain ⟨rfl, rfl⟩ := hres
    refine lv_if_eq (tgt := 14) hx hb dL_turnGuard_7 (by decide) (fun c2 => ?_) (fun c2 => ?_)
    · have e2 : (if v9 = 0 then (0 : Int64) else 1) = 0 := if_pos c2
      rw [show (fun v : Int32 => if v = 0 then (0 : Int64) else 1) v9 = 0 from e2]
      refine lv_lconst (v := 0) hx hb dL_turnGuard_14 (by decide) ?_
      refine h_last hx hb hI dL_turnGuard_15 (fun H locs hI => ?_)
      refine lv_goto (tgt := 22) hx hb dL_turnGuard_16 (by decide) ?_
      refine lv_iconst (v := 0) hx hb dL_turnGuard_22 (by decide) ?_
      exact h_iret hx hb hr hlk hI (Nat.le_of_ble_eq_true rfl) (Nat.le_of_ble_eq_true rfl) dL_turnGuard_23
    · have e2 : (if v9 = 0 then (0 : Int64) else 1) = 1 := if_neg c2
      rw [show (fun v : Int32 => if v = 0 then (0 : Int64) else 1) v9 = 1 from e2]
      refine lv_lconst (v := 1) hx hb dL_turnGuard_10 (by decide) ?_
      refine lv_goto (tgt := 15) hx hb dL_turnGuard_11 (by decide) ?_
      refine h_last hx hb hI dL_turnGuard_15 (fun H locs hI => ?_)
      refine lv_goto (tgt := 22) hx hb dL_turnGuard_16 (by decide) ?_
      refine lv_iconst (v := 0) hx hb dL_turnGuard_22 (by decide) ?_
      exact h_iret hx hb hr hlk hI (Nat.le_of_ble_eq_true rfl) (Nat.le_of_ble_eq_true rfl) dL_turnGuard_23
  · obtain rfl : r = .inl n := by
      rcases r with n9 | v9
      · cases hn; rfl
      · cases hn
    obtain ⟨rfl, hk⟩ := hres
    simp only [List.mem_cons, List.not_mem_nil, or_false, Prod.mk.injEq] at hk
    obtain ⟨rfl, rfl⟩ := hk
    refine vx_catch hown [] ⟨0, 16, 19, 25⟩ [] hxt (fun z hz => nomatch hz) (by decide) (by decide) (q736 hI.1.T) (q591 hI.1.T) hc1 hc2 hc3 ?_
    refine lv_astore_n hx hb dL_turnGuard_19 rfl hl (by decide) rfl (fun ls hl => ?_)
    refine lv_iconst (v := 1) hx hb dL_turnGuard_20 (by decide) ?_
    exact h_iret hx hb hr hlk hI (Nat.le_of_ble_eq_true rfl) (Nat.le_of_ble_eq_true rfl) dL_turnGuard_21
set_option maxRecDepth 100000 in
theorem h_hum (l : Launch) (w : WD) (hsf : l.stackTraces = false) (sz o : Nat) (cL : ClassId) (x : Int64) (a1 : Int32) (a2 : Int32) (M : Mem) (r : Nat ⊕ Int32) (M9 : Mem) (hf : f_X11_hum a1 a2 M = some (r, M9)) (k : Int32) (y1 : Int64) (hres : hRes [(2, 1)] (fun v => v.toInt64) x r k y1) : hMet l yL_hum cL_hum 5 [(0, 10, 13, 19)] { frames := 10, cells := 1, slots := 6, locals := 184 } w sz o cL x M [.ref (w.1 12 16), .int a1, .int a2, .ref o] k y1 M9 1 6 := by
  refine h_of (by decide) (Nat.le_of_ble_eq_true rfl) ?_
  intro p e s m args below meth c hx hb hr hml hxt hown hlk hI ls hl
  have hl : lv_has ls 5 [(0, .ref (w.1 12 16)), (1, .int a1), (2, .int a2), (3, .ref o)] := hl
  refine lv_aload_n hx hb dL_hum_0 rfl (lv_at hl 3 rfl) ?_
  refine lv_iconst (v := 0) hx hb dL_hum_1 (by decide) ?_
  refine lv_aload_n hx hb dL_hum_2 rfl (lv_at hl 0 rfl) ?_
  refine lv_iload_n hx hb dL_hum_3 rfl (lv_at hl 1 rfl) ?_
  refine lv_iload_n hx hb dL_hum_4 rfl (lv_at hl 2 rfl) ?_
  refine h_call (As := [.int a1, .int a2]) (rest := [.int 0, .ref o]) hx hb hml hown hI (c_X11_hum l w hsf s.heap.size a1 a2 M r M9 hf) (kb_X11_hum hI.1.T (q885 hI.1.T) (Nat.le_of_ble_eq_true rfl) (Nat.le_of_ble_eq_true rfl)) (q886 hI.1.T) (q887 hI.1.T) (m_recv hI.1 (mokX (by decide) (by decide)) rfl rfl) rfl hl.1 (Nat.le_of_ble_eq_true rfl) dL_hum_5 ⟨(Nat.le_of_ble_eq_true rfl), (Nat.le_of_ble_eq_true rfl)⟩ (fun v hv H locs hI => ?_) (fun n hn ce q H locs hI hc1 hc2 hc3 => ?_)
  · obtain ⟨v9, rfl, rfl⟩ : ∃ v9, r = .inr v9 ∧ v = some (.int v9) := by
      rcases r with n9 | v9
      · cases hv
      · cases hv; exact ⟨v9, rfl, rfl⟩
    obtain ⟨rfl, rfl⟩ := hres
    refine lv_i2l (v := v9.toInt64) hx hb dL_hum_8 rfl ?_
    refine h_last hx hb hI dL_hum_9 (fun H locs hI => ?_)
    refine lv_goto (tgt := 17) hx hb dL_hum_10 (by decide) ?_
    refine lv_iconst (v := 0) hx hb dL_hum_17 (by decide) ?_
    exact h_iret hx hb hr hlk hI (Nat.le_of_ble_eq_true rfl) (Nat.le_of_ble_eq_true rfl) dL_hum_18
  · obtain rfl : r = .inl n := by
      rcases r with n9 | v9
      · cases hn; rfl
      · cases hn
    obtain ⟨rfl, hk⟩ := hres
    simp only [List.mem_cons, List.not_mem_nil, or_false, Prod.mk.injEq] at hk
    obtain ⟨rfl, rfl⟩ := hk
    refine vx_catch hown [] ⟨0, 10, 13, 19⟩ [] hxt (fun z hz => nomatch hz) (by decide) (by decide) (q713 hI.1.T) (q663 hI.1.T) hc1 hc2 hc3 ?_
    refine lv_astore hx hb dL_hum_13 hl (by decide) rfl (fun ls hl => ?_)
    refine lv_iconst (v := 1) hx hb dL_hum_15 (by decide) ?_
    exact h_iret hx hb hr hlk hI (Nat.le_of_ble_eq_true rfl) (Nat.le_of_ble_eq_true rfl) dL_hum_16
set_option maxRecDepth 100000 in
theorem h_passHours (l : Launch) (w : WD) (hsf : l.stackTraces = false) (sz o : Nat) (cL : ClassId) (x : Int64) (a1 : Int32) (M : Mem) (r : Nat ⊕ Int32) (M9 : Mem) (hf : f_X11_passHours a1 M = some (r, M9)) (k : Int32) (y1 : Int64) (hres : hRes [(2, 1)] (fun v => v.toInt64) x r k y1) : hMet l yL_passHours cL_passHours 4 [(0, 9, 12, 19)] { frames := 10, cells := 1, slots := 6, locals := 183 } w sz o cL x M [.ref (w.1 12 16), .int a1, .ref o] k y1 M9 1 6 := by
  refine h_of (by decide) (Nat.le_of_ble_eq_true rfl) ?_
  intro p e s m args below meth c hx hb hr hml hxt hown hlk hI ls hl
  have hl : lv_has ls 4 [(0, .ref (w.1 12 16)), (1, .int a1), (2, .ref o)] := hl
  refine lv_aload_n hx hb dL_passHours_0 rfl (lv_at hl 2 rfl) ?_
  refine lv_iconst (v := 0) hx hb dL_passHours_1 (by decide) ?_
  refine lv_aload_n hx hb dL_passHours_2 rfl (lv_at hl 0 rfl) ?_
  refine lv_iload_n hx hb dL_passHours_3 rfl (lv_at hl 1 rfl) ?_
  refine h_call (As := [.int a1]) (rest := [.int 0, .ref o]) hx hb hml hown hI (c_X11_passHours l w hsf s.heap.size a1 M r M9 hf) (kb_X11_passHours hI.1.T (q897 hI.1.T) (Nat.le_of_ble_eq_true rfl) (Nat.le_of_ble_eq_true rfl)) (q898 hI.1.T) (q899 hI.1.T) (m_recv hI.1 (mokX (by decide) (by decide)) rfl rfl) rfl hl.1 (Nat.le_of_ble_eq_true rfl) dL_passHours_4 ⟨(Nat.le_of_ble_eq_true rfl), (Nat.le_of_ble_eq_true rfl)⟩ (fun v hv H locs hI => ?_) (fun n hn ce q H locs hI hc1 hc2 hc3 => ?_)
  · obtain ⟨v9, rfl, rfl⟩ : ∃ v9, r = .inr v9 ∧ v = some (.int v9) := by
      rcases r with n9 | v9
      · cases hv
      · cases hv; exact ⟨v9, rfl, rfl⟩
    obtain ⟨rfl, rfl⟩ := hres
    refine lv_i2l (v := v9.toInt64) hx hb dL_passHours_7 rfl ?_
    refine h_last hx hb hI dL_passHours_8 (fun H locs hI => ?_)
    refine lv_goto (tgt := 15) hx hb dL_passHours_9 (by decide) ?_
    refine lv_iconst (v := 0) hx hb dL_passHours_15 (by decide) ?_
    exact h_iret hx hb hr hlk hI (Nat.le_of_ble_eq_true rfl) (Nat.le_of_ble_eq_true rfl) dL_passHours_16
  · obtain rfl : r = .inl n := by
      rcases r with n9 | v9
      · cases hn; rfl
      · cases hn
    obtain ⟨rfl, hk⟩ := hres
    simp only [List.mem_cons, List.not_mem_nil, or_false, Prod.mk.injEq] at hk
    obtain ⟨rfl, rfl⟩ := hk
    refine vx_catch hown [] ⟨0, 9, 12, 19⟩ [] hxt (fun z hz => nomatch hz) (by decide) (by decide) (q713 hI.1.T) (q663 hI.1.T) hc1 hc2 hc3 ?_
    refine lv_astore_n hx hb dL_passHours_12 rfl hl (by decide) rfl (fun ls hl => ?_)
    refine lv_iconst (v := 1) hx hb dL_passHours_13 (by decide) ?_
    exact h_iret hx hb hr hlk hI (Nat.le_of_ble_eq_true rfl) (Nat.le_of_ble_eq_true rfl) dL_passHours_14
set_option maxRecDepth 100000 in
theorem h_threshold (l : Launch) (w : WD) (hsf : l.stackTraces = false) (sz o : Nat) (cL : ClassId) (x : Int64) (M : Mem) (r : Nat ⊕ Int32) (hf : f_X11_threshold M = some r) (k : Int32) (y1 : Int64) (hres : hRes [(4, 1)] (fun v => v.toInt64) x r k y1) : hMet l yL_threshold cL_threshold 3 [(0, 8, 11, 58)] { frames := 10, cells := 1, slots := 6, locals := 180 } w sz o cL x M [.ref (w.1 12 16), .ref o] k y1 M 1 6 := by
  refine h_of (by decide) (Nat.le_of_ble_eq_true rfl) ?_
  intro p e s m args below meth c hx hb hr hml hxt hown hlk hI ls hl
  have hl : lv_has ls 3 [(0, .ref (w.1 12 16)), (1, .ref o)] := hl
  refine lv_aload_n hx hb dL_threshold_0 rfl (lv_at hl 1 rfl) ?_
  refine lv_iconst (v := 0) hx hb dL_threshold_1 (by decide) ?_
  refine lv_aload_n hx hb dL_threshold_2 rfl (lv_at hl 0 rfl) ?_
  refine h_call (As := []) (rest := [.int 0, .ref o]) hx hb hml hown hI (c_X11_threshold l w hsf s.heap.size M r hf) (kb_X11_threshold hI.1.T (q927 hI.1.T) (Nat.le_of_ble_eq_true rfl) (Nat.le_of_ble_eq_true rfl)) (q928 hI.1.T) (q929 hI.1.T) (m_recv hI.1 (mokX (by decide) (by decide)) rfl rfl) rfl hl.1 (Nat.le_of_ble_eq_true rfl) dL_threshold_3 ⟨(Nat.le_of_ble_eq_true rfl), (Nat.le_of_ble_eq_true rfl)⟩ (fun v hv H locs hI => ?_) (fun n hn ce q H locs hI hc1 hc2 hc3 => ?_)
  · obtain ⟨v9, rfl, rfl⟩ : ∃ v9, r = .inr v9 ∧ v = some (.int v9) := by
      rcases r with n9 | v9
      · cases hv
      · cases hv; exact ⟨v9, rfl, rfl⟩
    obtain ⟨rfl, rfl⟩ := hres
    refine lv_i2l (v := v9.toInt64) hx hb dL_threshold_6 rfl ?_
    refine h_last hx hb hI dL_threshold_7 (fun H locs hI => ?_)
    refine lv_goto (tgt := 14) hx hb dL_threshold_8 (by decide) ?_
    refine lv_iconst (v := 0) hx hb dL_threshold_14 (by decide) ?_
    exact h_iret hx hb hr hlk hI (Nat.le_of_ble_eq_true rfl) (Nat.le_of_ble_eq_true rfl) dL_threshold_15
  · obtain rfl : r = .inl n := by
      rcases r with n9 | v9
      · cases hn; rfl
      · cases hn
    obtain ⟨rfl, hk⟩ := hres
    simp only [List.mem_cons, List.not_mem_nil, or_false, Prod.mk.injEq] at hk
    obtain ⟨rfl, rfl⟩ := hk
    refine vx_catch hown [] ⟨0, 8, 11, 58⟩ [] hxt (fun z hz => nomatch hz) (by decide) (by decide) (q926 hI.1.T) (q937 hI.1.T) hc1 hc2 hc3 ?_
    refine lv_astore_n hx hb dL_threshold_11 rfl hl (by decide) rfl (fun ls hl => ?_)
    refine lv_iconst (v := 1) hx hb dL_threshold_12 (by decide) ?_
    exact h_iret hx hb hr hlk hI (Nat.le_of_ble_eq_true rfl) (Nat.le_of_ble_eq_true rfl) dL_threshold_13
set_option maxRecDepth 100000 in
theorem h_share (l : Launch) (w : WD) (hsf : l.stackTraces = false) (sz o : Nat) (cL : ClassId) (x : Int64) (a1 : Int32) (M : Mem) (r : Nat ⊕ Int32) (hf : f_X11_share a1 M = some r) (k : Int32) (y1 : Int64) (hres : hRes [(1, 1), (4, 2)] (fun v => v.toInt64) x r k y1) : hMet l yL_share cL_share 4 [(0, 9, 12, 25), (0, 9, 15, 58)] { frames := 10, cells := 2, slots := 12, locals := 182 } w sz o cL x M [.ref (w.1 12 16), .int a1, .ref o] k y1 M 2 12 := by
  refine h_of (by decide) (Nat.le_of_ble_eq_true rfl) ?_
  intro p e s m args below meth c hx hb hr hml hxt hown hlk hI ls hl
  have hl : lv_has ls 4 [(0, .ref (w.1 12 16)), (1, .int a1), (2, .ref o)] := hl
  refine lv_aload_n hx hb dL_share_0 rfl (lv_at hl 2 rfl) ?_
  refine lv_iconst (v := 0) hx hb dL_share_1 (by decide) ?_
  refine lv_aload_n hx hb dL_share_2 rfl (lv_at hl 0 rfl) ?_
  refine lv_iload_n hx hb dL_share_3 rfl (lv_at hl 1 rfl) ?_
  refine h_call (As := [.int a1]) (rest := [.int 0, .ref o]) hx hb hml hown hI (c_X11_share l w hsf s.heap.size a1 M r hf) (kb_X11_share hI.1.T (q954 hI.1.T) (Nat.le_of_ble_eq_true rfl) (Nat.le_of_ble_eq_true rfl)) (q955 hI.1.T) (q956 hI.1.T) (m_recv hI.1 (mokX (by decide) (by decide)) rfl rfl) rfl hl.1 (Nat.le_of_ble_eq_true rfl) dL_share_4 ⟨(Nat.le_of_ble_eq_true rfl), (Nat.le_of_ble_eq_true rfl)⟩ (fun v hv H locs hI => ?_) (fun n hn ce q H locs hI hc1 hc2 hc3 => ?_)
  · obtain ⟨v9, rfl, rfl⟩ : ∃ v9, r = .inr v9 ∧ v = some (.int v9) := by
      rcases r with n9 | v9
      · cases hv
      · cases hv; exact ⟨v9, rfl, rfl⟩
    obtain ⟨rfl, rfl⟩ := hres
    refine lv_i2l (v := v9.toInt64) hx hb dL_share_7 rfl ?_
    refine h_last hx hb hI dL_share_8 (fun H locs hI => ?_)
    refine lv_goto (tgt := 18) hx hb dL_share_9 (by decide) ?_
    refine lv_iconst (v := 0) hx hb dL_share_18 (by decide) ?_
    exact h_iret hx hb hr hlk hI (Nat.le_of_ble_eq_true rfl) (Nat.le_of_ble_eq_true rfl) dL_share_19
  · obtain rfl : r = .inl n := by
      rcases r with n9 | v9
      · cases hn; rfl
      · cases hn
    obtain ⟨rfl, hk⟩ := hres
    simp only [List.mem_cons, List.not_mem_nil, or_false, Prod.mk.injEq] at hk
    rcases hk with ⟨rfl, rfl⟩ | ⟨rfl, rfl⟩
    · refine vx_catch hown [] ⟨0, 9, 12, 25⟩ [⟨0, 9, 15, 58⟩] hxt (fun z hz => nomatch hz) (by decide) (by decide) (q736 hI.1.T) (q591 hI.1.T) hc1 hc2 hc3 ?_
      refine lv_astore_n hx hb dL_share_12 rfl hl (by decide) rfl (fun ls hl => ?_)
      refine lv_iconst (v := 1) hx hb dL_share_13 (by decide) ?_
      exact h_iret hx hb hr hlk hI (Nat.le_of_ble_eq_true rfl) (Nat.le_of_ble_eq_true rfl) dL_share_14
    · refine vx_catch hown [⟨0, 9, 12, 25⟩] ⟨0, 9, 15, 58⟩ [] hxt (fun z hz => by rcases List.mem_cons.mp hz with rfl | hz; exact Or.inr ⟨by decide, _, (q736 hI.1.T), hI.1.nc (i := 4) (j := 1) (by decide) (by decide) (by decide) (by decide) (by decide)⟩; exact nomatch hz) (by decide) (by decide) (q926 hI.1.T) (q937 hI.1.T) hc1 hc2 hc3 ?_
      refine lv_astore_n hx hb dL_share_15 rfl hl (by decide) rfl (fun ls hl => ?_)
      refine lv_iconst (v := 2) hx hb dL_share_16 (by decide) ?_
      exact h_iret hx hb hr hlk hI (Nat.le_of_ble_eq_true rfl) (Nat.le_of_ble_eq_true rfl) dL_share_17
set_option maxRecDepth 100000 in
theorem h_isCorrect (l : Launch) (w : WD) (hsf : l.stackTraces = false) (sz o : Nat) (cL : ClassId) (x : Int64) (a1 : Int32) (M : Mem) (r : Nat ⊕ Int32) (hf : f_X11_isCorrect a1 M = some r) (k : Int32) (y1 : Int64) (hres : hRes [(1, 1), (4, 2)] (fun v => if v = 0 then 0 else 1) x r k y1) : hMet l yL_isCorrect cL_isCorrect 4 [(0, 16, 19, 25), (0, 16, 22, 58)] { frames := 10, cells := 2, slots := 12, locals := 182 } w sz o cL x M [.ref (w.1 12 16), .int a1, .ref o] k y1 M 2 12 := by
  refine h_of (by decide) (Nat.le_of_ble_eq_true rfl) ?_
  intro p e s m args below meth c hx hb hr hml hxt hown hlk hI ls hl
  have hl : lv_has ls 4 [(0, .ref (w.1 12 16)), (1, .int a1), (2, .ref o)] := hl
  refine lv_aload_n hx hb dL_isCorrect_0 rfl (lv_at hl 2 rfl) ?_
  refine lv_iconst (v := 0) hx hb dL_isCorrect_1 (by decide) ?_
  refine lv_aload_n hx hb dL_isCorrect_2 rfl (lv_at hl 0 rfl) ?_
  refine lv_iload_n hx hb dL_isCorrect_3 rfl (lv_at hl 1 rfl) ?_
  refine h_call (As := [.int a1]) (rest := [.int 0, .ref o]) hx hb hml hown hI (c_X11_isCorrect l w hsf s.heap.size a1 M r hf) (kb_X11_isCorrect hI.1.T (q967 hI.1.T) (Nat.le_of_ble_eq_true rfl) (Nat.le_of_ble_eq_true rfl)) (q968 hI.1.T) (q969 hI.1.T) (m_recv hI.1 (mokX (by decide) (by decide)) rfl rfl) rfl hl.1 (Nat.le_of_ble_eq_true rfl) dL_isCorrect_4 ⟨(Nat.le_of_ble_eq_true rfl), (Nat.le_of_ble_eq_true rfl)⟩ (fun v hv H locs hI => ?_) (fun n hn ce q H locs hI hc1 hc2 hc3 => ?_)
  · obtain ⟨v9, rfl, rfl⟩ : ∃ v9, r = .inr v9 ∧ v = some (.int v9) := by
      rcases r with n9 | v9
      · cases hv
      · cases hv; exact ⟨v9, rfl, rfl⟩
    obtain ⟨rfl, rfl⟩ := hres
    refine lv_if_eq (tgt := 14) hx hb dL_isCorrect_7 (by decide) (fun c2 => ?_) (fun c2 => ?_)
    · have e2 : (if v9 = 0 then (0 : Int64) else 1) = 0 := if_pos c2
      rw [show (fun v : Int32 => if v = 0 then (0 : Int64) else 1) v9 = 0 from e2]
      refine lv_lconst (v := 0) hx hb dL_isCorrect_14 (by decide) ?_
      refine h_last hx hb hI dL_isCorrect_15 (fun H locs hI => ?_)
      refine lv_goto (tgt := 25) hx hb dL_isCorrect_16 (by decide) ?_
      refine lv_iconst (v := 0) hx hb dL_isCorrect_25 (by decide) ?_
      exact h_iret hx hb hr hlk hI (Nat.le_of_ble_eq_true rfl) (Nat.le_of_ble_eq_true rfl) dL_isCorrect_26
    · have e2 : (if v9 = 0 then (0 : Int64) else 1) = 1 := if_neg c2
      rw [show (fun v : Int32 => if v = 0 then (0 : Int64) else 1) v9 = 1 from e2]
      refine lv_lconst (v := 1) hx hb dL_isCorrect_10 (by decide) ?_
      refine lv_goto (tgt := 15) hx hb dL_isCorrect_11 (by decide) ?_
      refine h_last hx hb hI dL_isCorrect_15 (fun H locs hI => ?_)
      refine lv_goto (tgt := 25) hx hb dL_isCorrect_16 (by decide) ?_
      refine lv_iconst (v := 0) hx hb dL_isCorrect_25 (by decide) ?_
      exact h_iret hx hb hr hlk hI (Nat.le_of_ble_eq_true rfl) (Nat.le_of_ble_eq_true rfl) dL_isCorrect_26
  · obtain rfl : r = .inl n := by
      rcases r with n9 | v9
      · cases hn; rfl
      · cases hn
    obtain ⟨rfl, hk⟩ := hres
    simp only [List.mem_cons, List.not_mem_nil, or_false, Prod.mk.injEq] at hk
    rcases hk with ⟨rfl, rfl⟩ | ⟨rfl, rfl⟩
    · refine vx_catch hown [] ⟨0, 16, 19, 25⟩ [⟨0, 16, 22, 58⟩] hxt (fun z hz => nomatch hz) (by decide) (by decide) (q736 hI.1.T) (q591 hI.1.T) hc1 hc2 hc3 ?_
      refine lv_astore_n hx hb dL_isCorrect_19 rfl hl (by decide) rfl (fun ls hl => ?_)
      refine lv_iconst (v := 1) hx hb dL_isCorrect_20 (by decide) ?_
      exact h_iret hx hb hr hlk hI (Nat.le_of_ble_eq_true rfl) (Nat.le_of_ble_eq_true rfl) dL_isCorrect_21
    · refine vx_catch hown [⟨0, 16, 19, 25⟩] ⟨0, 16, 22, 58⟩ [] hxt (fun z hz => by rcases List.mem_cons.mp hz with rfl | hz; exact Or.inr ⟨by decide, _, (q736 hI.1.T), hI.1.nc (i := 4) (j := 1) (by decide) (by decide) (by decide) (by decide) (by decide)⟩; exact nomatch hz) (by decide) (by decide) (q926 hI.1.T) (q937 hI.1.T) hc1 hc2 hc3 ?_
      refine lv_astore_n hx hb dL_isCorrect_22 rfl hl (by decide) rfl (fun ls hl => ?_)
      refine lv_iconst (v := 2) hx hb dL_isCorrect_23 (by decide) ?_
      exact h_iret hx hb hr hlk hI (Nat.le_of_ble_eq_true rfl) (Nat.le_of_ble_eq_true rfl) dL_isCorrect_24
set_option maxRecDepth 100000 in
theorem h_isPresented (l : Launch) (w : WD) (hsf : l.stackTraces = false) (sz o : Nat) (cL : ClassId) (x : Int64) (a1 : Int32) (M : Mem) (r : Nat ⊕ Int32) (hf : f_X11_isPresented a1 M = some r) (k : Int32) (y1 : Int64) (hres : hRes [(1, 1)] (fun v => if v = 0 then 0 else 1) x r k y1) : hMet l yL_isPresented cL_isPresented 4 [(0, 16, 19, 25)] { frames := 10, cells := 1, slots := 6, locals := 182 } w sz o cL x M [.ref (w.1 12 16), .int a1, .ref o] k y1 M 1 6 := by
  refine h_of (by decide) (Nat.le_of_ble_eq_true rfl) ?_
  intro p e s m args below meth c hx hb hr hml hxt hown hlk hI ls hl
  have hl : lv_has ls 4 [(0, .ref (w.1 12 16)), (1, .int a1), (2, .ref o)] := hl
  refine lv_aload_n hx hb dL_isPresented_0 rfl (lv_at hl 2 rfl) ?_
  refine lv_iconst (v := 0) hx hb dL_isPresented_1 (by decide) ?_
  refine lv_aload_n hx hb dL_isPresented_2 rfl (lv_at hl 0 rfl) ?_
  refine lv_iload_n hx hb dL_isPresented_3 rfl (lv_at hl 1 rfl) ?_
  refine h_call (As := [.int a1]) (rest := [.int 0, .ref o]) hx hb hml hown hI (c_X11_isPresented l w hsf s.heap.size a1 M r hf) (kb_X11_isPresented hI.1.T (q975 hI.1.T) (Nat.le_of_ble_eq_true rfl) (Nat.le_of_ble_eq_true rfl)) (q976 hI.1.T) (q977 hI.1.T) (m_recv hI.1 (mokX (by decide) (by decide)) rfl rfl) rfl hl.1 (Nat.le_of_ble_eq_true rfl) dL_isPresented_4 ⟨(Nat.le_of_ble_eq_true rfl), (Nat.le_of_ble_eq_true rfl)⟩ (fun v hv H locs hI => ?_) (fun n hn ce q H locs hI hc1 hc2 hc3 => ?_)
  · obtain ⟨v9, rfl, rfl⟩ : ∃ v9, r = .inr v9 ∧ v = some (.int v9) := by
      rcases r with n9 | v9
      · cases hv
      · cases hv; exact ⟨v9, rfl, rfl⟩
    obtain ⟨rfl, rfl⟩ := hres
    refine lv_if_eq (tgt := 14) hx hb dL_isPresented_7 (by decide) (fun c2 => ?_) (fun c2 => ?_)
    · have e2 : (if v9 = 0 then (0 : Int64) else 1) = 0 := if_pos c2
      rw [show (fun v : Int32 => if v = 0 then (0 : Int64) else 1) v9 = 0 from e2]
      refine lv_lconst (v := 0) hx hb dL_isPresented_14 (by decide) ?_
      refine h_last hx hb hI dL_isPresented_15 (fun H locs hI => ?_)
      refine lv_goto (tgt := 22) hx hb dL_isPresented_16 (by decide) ?_
      refine lv_iconst (v := 0) hx hb dL_isPresented_22 (by decide) ?_
      exact h_iret hx hb hr hlk hI (Nat.le_of_ble_eq_true rfl) (Nat.le_of_ble_eq_true rfl) dL_isPresented_23
    · have e2 : (if v9 = 0 then (0 : Int64) else 1) = 1 := if_neg c2
      rw [show (fun v : Int32 => if v = 0 then (0 : Int64) else 1) v9 = 1 from e2]
      refine lv_lconst (v := 1) hx hb dL_isPresented_10 (by decide) ?_
      refine lv_goto (tgt := 15) hx hb dL_isPresented_11 (by decide) ?_
      refine h_last hx hb hI dL_isPresented_15 (fun H locs hI => ?_)
      refine lv_goto (tgt := 22) hx hb dL_isPresented_16 (by decide) ?_
      refine lv_iconst (v := 0) hx hb dL_isPresented_22 (by decide) ?_
      exact h_iret hx hb hr hlk hI (Nat.le_of_ble_eq_true rfl) (Nat.le_of_ble_eq_true rfl) dL_isPresented_23
  · obtain rfl : r = .inl n := by
      rcases r with n9 | v9
      · cases hn; rfl
      · cases hn
    obtain ⟨rfl, hk⟩ := hres
    simp only [List.mem_cons, List.not_mem_nil, or_false, Prod.mk.injEq] at hk
    obtain ⟨rfl, rfl⟩ := hk
    refine vx_catch hown [] ⟨0, 16, 19, 25⟩ [] hxt (fun z hz => nomatch hz) (by decide) (by decide) (q736 hI.1.T) (q591 hI.1.T) hc1 hc2 hc3 ?_
    refine lv_astore_n hx hb dL_isPresented_19 rfl hl (by decide) rfl (fun ls hl => ?_)
    refine lv_iconst (v := 1) hx hb dL_isPresented_20 (by decide) ?_
    exact h_iret hx hb hr hlk hI (Nat.le_of_ble_eq_true rfl) (Nat.le_of_ble_eq_true rfl) dL_isPresented_21
set_option maxRecDepth 100000 in
theorem h_presentedAt (l : Launch) (w : WD) (hsf : l.stackTraces = false) (sz o : Nat) (cL : ClassId) (x : Int64) (a1 : Int32) (M : Mem) (r : Nat ⊕ Int32) (hf : f_X11_presentedAt a1 M = some r) (k : Int32) (y1 : Int64) (hres : hRes [(4, 1)] (fun v => v.toInt64) x r k y1) : hMet l yL_presentedAt cL_presentedAt 4 [(0, 9, 12, 58)] { frames := 9, cells := 1, slots := 6, locals := 161 } w sz o cL x M [.ref (w.1 12 16), .int a1, .ref o] k y1 M 1 6 := by
  refine h_of (by decide) (Nat.le_of_ble_eq_true rfl) ?_
  intro p e s m args below meth c hx hb hr hml hxt hown hlk hI ls hl
  have hl : lv_has ls 4 [(0, .ref (w.1 12 16)), (1, .int a1), (2, .ref o)] := hl
  refine lv_aload_n hx hb dL_presentedAt_0 rfl (lv_at hl 2 rfl) ?_
  refine lv_iconst (v := 0) hx hb dL_presentedAt_1 (by decide) ?_
  refine lv_aload_n hx hb dL_presentedAt_2 rfl (lv_at hl 0 rfl) ?_
  refine lv_iload_n hx hb dL_presentedAt_3 rfl (lv_at hl 1 rfl) ?_
  refine h_call (As := [.int a1]) (rest := [.int 0, .ref o]) hx hb hml hown hI (c_X11_presentedAt l w hsf s.heap.size a1 M r hf) (kb_X11_presentedAt hI.1.T (q983 hI.1.T) (Nat.le_of_ble_eq_true rfl) (Nat.le_of_ble_eq_true rfl)) (q984 hI.1.T) (q985 hI.1.T) (m_recv hI.1 (mokX (by decide) (by decide)) rfl rfl) rfl hl.1 (Nat.le_of_ble_eq_true rfl) dL_presentedAt_4 ⟨(Nat.le_of_ble_eq_true rfl), (Nat.le_of_ble_eq_true rfl)⟩ (fun v hv H locs hI => ?_) (fun n hn ce q H locs hI hc1 hc2 hc3 => ?_)
  · obtain ⟨v9, rfl, rfl⟩ : ∃ v9, r = .inr v9 ∧ v = some (.int v9) := by
      rcases r with n9 | v9
      · cases hv
      · cases hv; exact ⟨v9, rfl, rfl⟩
    obtain ⟨rfl, rfl⟩ := hres
    refine lv_i2l (v := v9.toInt64) hx hb dL_presentedAt_7 rfl ?_
    refine h_last hx hb hI dL_presentedAt_8 (fun H locs hI => ?_)
    refine lv_goto (tgt := 15) hx hb dL_presentedAt_9 (by decide) ?_
    refine lv_iconst (v := 0) hx hb dL_presentedAt_15 (by decide) ?_
    exact h_iret hx hb hr hlk hI (Nat.le_of_ble_eq_true rfl) (Nat.le_of_ble_eq_true rfl) dL_presentedAt_16
  · obtain rfl : r = .inl n := by
      rcases r with n9 | v9
      · cases hn; rfl
      · cases hn
    obtain ⟨rfl, hk⟩ := hres
    simp only [List.mem_cons, List.not_mem_nil, or_false, Prod.mk.injEq] at hk
    obtain ⟨rfl, rfl⟩ := hk
    refine vx_catch hown [] ⟨0, 9, 12, 58⟩ [] hxt (fun z hz => nomatch hz) (by decide) (by decide) (q926 hI.1.T) (q937 hI.1.T) hc1 hc2 hc3 ?_
    refine lv_astore_n hx hb dL_presentedAt_12 rfl hl (by decide) rfl (fun ls hl => ?_)
    refine lv_iconst (v := 1) hx hb dL_presentedAt_13 (by decide) ?_
    exact h_iret hx hb hr hlk hI (Nat.le_of_ble_eq_true rfl) (Nat.le_of_ble_eq_true rfl) dL_presentedAt_14
set_option maxRecDepth 100000 in
theorem h_toldSecret (l : Launch) (w : WD) (hsf : l.stackTraces = false) (sz o : Nat) (cL : ClassId) (x : Int64) (M : Mem) (r : Nat ⊕ Int32) (hf : f_X11_toldSecret M = some r) (k : Int32) (y1 : Int64) (hres : hRes [(4, 1)] (fun v => v.toInt64) x r k y1) : hMet l yL_toldSecret cL_toldSecret 3 [(0, 8, 11, 58)] { frames := 10, cells := 1, slots := 6, locals := 180 } w sz o cL x M [.ref (w.1 12 16), .ref o] k y1 M 1 6 := by
  refine h_of (by decide) (Nat.le_of_ble_eq_true rfl) ?_
  intro p e s m args below meth c hx hb hr hml hxt hown hlk hI ls hl
  have hl : lv_has ls 3 [(0, .ref (w.1 12 16)), (1, .ref o)] := hl
  refine lv_aload_n hx hb dL_toldSecret_0 rfl (lv_at hl 1 rfl) ?_
  refine lv_iconst (v := 0) hx hb dL_toldSecret_1 (by decide) ?_
  refine lv_aload_n hx hb dL_toldSecret_2 rfl (lv_at hl 0 rfl) ?_
  refine h_call (As := []) (rest := [.int 0, .ref o]) hx hb hml hown hI (c_X11_toldSecret l w hsf s.heap.size M r hf) (kb_X11_toldSecret hI.1.T (q991 hI.1.T) (Nat.le_of_ble_eq_true rfl) (Nat.le_of_ble_eq_true rfl)) (q992 hI.1.T) (q993 hI.1.T) (m_recv hI.1 (mokX (by decide) (by decide)) rfl rfl) rfl hl.1 (Nat.le_of_ble_eq_true rfl) dL_toldSecret_3 ⟨(Nat.le_of_ble_eq_true rfl), (Nat.le_of_ble_eq_true rfl)⟩ (fun v hv H locs hI => ?_) (fun n hn ce q H locs hI hc1 hc2 hc3 => ?_)
  · obtain ⟨v9, rfl, rfl⟩ : ∃ v9, r = .inr v9 ∧ v = some (.int v9) := by
      rcases r with n9 | v9
      · cases hv
      · cases hv; exact ⟨v9, rfl, rfl⟩
    obtain ⟨rfl, rfl⟩ := hres
    refine lv_i2l (v := v9.toInt64) hx hb dL_toldSecret_6 rfl ?_
    refine h_last hx hb hI dL_toldSecret_7 (fun H locs hI => ?_)
    refine lv_goto (tgt := 14) hx hb dL_toldSecret_8 (by decide) ?_
    refine lv_iconst (v := 0) hx hb dL_toldSecret_14 (by decide) ?_
    exact h_iret hx hb hr hlk hI (Nat.le_of_ble_eq_true rfl) (Nat.le_of_ble_eq_true rfl) dL_toldSecret_15
  · obtain rfl : r = .inl n := by
      rcases r with n9 | v9
      · cases hn; rfl
      · cases hn
    obtain ⟨rfl, hk⟩ := hres
    simp only [List.mem_cons, List.not_mem_nil, or_false, Prod.mk.injEq] at hk
    obtain ⟨rfl, rfl⟩ := hk
    refine vx_catch hown [] ⟨0, 8, 11, 58⟩ [] hxt (fun z hz => nomatch hz) (by decide) (by decide) (q926 hI.1.T) (q937 hI.1.T) hc1 hc2 hc3 ?_
    refine lv_astore_n hx hb dL_toldSecret_11 rfl hl (by decide) rfl (fun ls hl => ?_)
    refine lv_iconst (v := 1) hx hb dL_toldSecret_12 (by decide) ?_
    exact h_iret hx hb hr hlk hI (Nat.le_of_ble_eq_true rfl) (Nat.le_of_ble_eq_true rfl) dL_toldSecret_13
set_option maxRecDepth 100000 in
theorem h_toldSecretByElimination (l : Launch) (w : WD) (hsf : l.stackTraces = false) (sz o : Nat) (cL : ClassId) (x : Int64) (M : Mem) (r : Nat ⊕ Int32) (M9 : Mem) (hf : f_X11_toldSecretByElimination M = some (r, M9)) (k : Int32) (y1 : Int64) (hres : hRes [(4, 1)] (fun v => v.toInt64) x r k y1) : hMet l yL_toldSecretByElimination cL_toldSecretByElimination 3 [(0, 8, 11, 58)] { frames := 10, cells := 1, slots := 6, locals := 180 } w sz o cL x M [.ref (w.1 12 16), .ref o] k y1 M9 1 6 := by
  refine h_of (by decide) (Nat.le_of_ble_eq_true rfl) ?_
  intro p e s m args below meth c hx hb hr hml hxt hown hlk hI ls hl
  have hl : lv_has ls 3 [(0, .ref (w.1 12 16)), (1, .ref o)] := hl
  refine lv_aload_n hx hb dL_toldSecretByElimination_0 rfl (lv_at hl 1 rfl) ?_
  refine lv_iconst (v := 0) hx hb dL_toldSecretByElimination_1 (by decide) ?_
  refine lv_aload_n hx hb dL_toldSecretByElimination_2 rfl (lv_at hl 0 rfl) ?_
  refine h_call (As := []) (rest := [.int 0, .ref o]) hx hb hml hown hI (c_X11_toldSecretByElimination l w hsf s.heap.size M r M9 hf) (kb_X11_toldSecretByElimination hI.1.T (q1003 hI.1.T) (Nat.le_of_ble_eq_true rfl) (Nat.le_of_ble_eq_true rfl)) (q1004 hI.1.T) (q1005 hI.1.T) (m_recv hI.1 (mokX (by decide) (by decide)) rfl rfl) rfl hl.1 (Nat.le_of_ble_eq_true rfl) dL_toldSecretByElimination_3 ⟨(Nat.le_of_ble_eq_true rfl), (Nat.le_of_ble_eq_true rfl)⟩ (fun v hv H locs hI => ?_) (fun n hn ce q H locs hI hc1 hc2 hc3 => ?_)
  · obtain ⟨v9, rfl, rfl⟩ : ∃ v9, r = .inr v9 ∧ v = some (.int v9) := by
      rcases r with n9 | v9
      · cases hv
      · cases hv; exact ⟨v9, rfl, rfl⟩
    obtain ⟨rfl, rfl⟩ := hres
    refine lv_i2l (v := v9.toInt64) hx hb dL_toldSecretByElimination_6 rfl ?_
    refine h_last hx hb hI dL_toldSecretByElimination_7 (fun H locs hI => ?_)
    refine lv_goto (tgt := 14) hx hb dL_toldSecretByElimination_8 (by decide) ?_
    refine lv_iconst (v := 0) hx hb dL_toldSecretByElimination_14 (by decide) ?_
    exact h_iret hx hb hr hlk hI (Nat.le_of_ble_eq_true rfl) (Nat.le_of_ble_eq_true rfl) dL_toldSecretByElimination_15
  · obtain rfl : r = .inl n := by
      rcases r with n9 | v9
      · cases hn; rfl
      · cases hn
    obtain ⟨rfl, hk⟩ := hres
    simp only [List.mem_cons, List.not_mem_nil, or_false, Prod.mk.injEq] at hk
    obtain ⟨rfl, rfl⟩ := hk
    refine vx_catch hown [] ⟨0, 8, 11, 58⟩ [] hxt (fun z hz => nomatch hz) (by decide) (by decide) (q926 hI.1.T) (q937 hI.1.T) hc1 hc2 hc3 ?_
    refine lv_astore_n hx hb dL_toldSecretByElimination_11 rfl hl (by decide) rfl (fun ls hl => ?_)
    refine lv_iconst (v := 1) hx hb dL_toldSecretByElimination_12 (by decide) ?_
    exact h_iret hx hb hr hlk hI (Nat.le_of_ble_eq_true rfl) (Nat.le_of_ble_eq_true rfl) dL_toldSecretByElimination_13
set_option maxRecDepth 100000 in
theorem h_toldValue (l : Launch) (w : WD) (hsf : l.stackTraces = false) (sz o : Nat) (cL : ClassId) (x : Int64) (a1 : Int32) (M : Mem) (r : Nat ⊕ Int32) (hf : f_X11_toldValue a1 M = some r) (k : Int32) (y1 : Int64) (hres : hRes [(2, 1), (4, 2)] (fun v => v.toInt64) x r k y1) : hMet l yL_toldValue cL_toldValue 4 [(0, 9, 12, 19), (0, 9, 15, 58)] { frames := 10, cells := 1, slots := 6, locals := 181 } w sz o cL x M [.ref (w.1 12 16), .int a1, .ref o] k y1 M 1 6 := by
  refine h_of (by decide) (Nat.le_of_ble_eq_true rfl) ?_
  intro p e s m args below meth c hx hb hr hml hxt hown hlk hI ls hl
  have hl : lv_has ls 4 [(0, .ref (w.1 12 16)), (1, .int a1), (2, .ref o)] := hl
  refine lv_aload_n hx hb dL_toldValue_0 rfl (lv_at hl 2 rfl) ?_
  refine lv_iconst (v := 0) hx hb dL_toldValue_1 (by decide) ?_
  refine lv_aload_n hx hb dL_toldValue_2 rfl (lv_at hl 0 rfl) ?_
  refine lv_iload_n hx hb dL_toldValue_3 rfl (lv_at hl 1 rfl) ?_
  refine h_call (As := [.int a1]) (rest := [.int 0, .ref o]) hx hb hml hown hI (c_X11_toldValue l w hsf s.heap.size a1 M r hf) (kb_X11_toldValue hI.1.T (q1010 hI.1.T) (Nat.le_of_ble_eq_true rfl) (Nat.le_of_ble_eq_true rfl)) (q1011 hI.1.T) (q1012 hI.1.T) (m_recv hI.1 (mokX (by decide) (by decide)) rfl rfl) rfl hl.1 (Nat.le_of_ble_eq_true rfl) dL_toldValue_4 ⟨(Nat.le_of_ble_eq_true rfl), (Nat.le_of_ble_eq_true rfl)⟩ (fun v hv H locs hI => ?_) (fun n hn ce q H locs hI hc1 hc2 hc3 => ?_)
  · obtain ⟨v9, rfl, rfl⟩ : ∃ v9, r = .inr v9 ∧ v = some (.int v9) := by
      rcases r with n9 | v9
      · cases hv
      · cases hv; exact ⟨v9, rfl, rfl⟩
    obtain ⟨rfl, rfl⟩ := hres
    refine lv_i2l (v := v9.toInt64) hx hb dL_toldValue_7 rfl ?_
    refine h_last hx hb hI dL_toldValue_8 (fun H locs hI => ?_)
    refine lv_goto (tgt := 18) hx hb dL_toldValue_9 (by decide) ?_
    refine lv_iconst (v := 0) hx hb dL_toldValue_18 (by decide) ?_
    exact h_iret hx hb hr hlk hI (Nat.le_of_ble_eq_true rfl) (Nat.le_of_ble_eq_true rfl) dL_toldValue_19
  · obtain rfl : r = .inl n := by
      rcases r with n9 | v9
      · cases hn; rfl
      · cases hn
    obtain ⟨rfl, hk⟩ := hres
    simp only [List.mem_cons, List.not_mem_nil, or_false, Prod.mk.injEq] at hk
    rcases hk with ⟨rfl, rfl⟩ | ⟨rfl, rfl⟩
    · refine vx_catch hown [] ⟨0, 9, 12, 19⟩ [⟨0, 9, 15, 58⟩] hxt (fun z hz => nomatch hz) (by decide) (by decide) (q713 hI.1.T) (q663 hI.1.T) hc1 hc2 hc3 ?_
      refine lv_astore_n hx hb dL_toldValue_12 rfl hl (by decide) rfl (fun ls hl => ?_)
      refine lv_iconst (v := 1) hx hb dL_toldValue_13 (by decide) ?_
      exact h_iret hx hb hr hlk hI (Nat.le_of_ble_eq_true rfl) (Nat.le_of_ble_eq_true rfl) dL_toldValue_14
    · refine vx_catch hown [⟨0, 9, 12, 19⟩] ⟨0, 9, 15, 58⟩ [] hxt (fun z hz => by rcases List.mem_cons.mp hz with rfl | hz; exact Or.inr ⟨by decide, _, (q713 hI.1.T), hI.1.nc (i := 4) (j := 2) (by decide) (by decide) (by decide) (by decide) (by decide)⟩; exact nomatch hz) (by decide) (by decide) (q926 hI.1.T) (q937 hI.1.T) hc1 hc2 hc3 ?_
      refine lv_astore_n hx hb dL_toldValue_15 rfl hl (by decide) rfl (fun ls hl => ?_)
      refine lv_iconst (v := 2) hx hb dL_toldValue_16 (by decide) ?_
      exact h_iret hx hb hr hlk hI (Nat.le_of_ble_eq_true rfl) (Nat.le_of_ble_eq_true rfl) dL_toldValue_17
set_option maxRecDepth 100000 in
theorem h_doAgree (l : Launch) (w : WD) (hsf : l.stackTraces = false) (sz o : Nat) (cL : ClassId) (x : Int64) (M : Mem) (r : Nat ⊕ Int32) (hf : f_X11_doAgree M = some r) (k : Int32) (y1 : Int64) (hres : hRes [(4, 1)] (fun v => if v = 0 then 0 else 1) x r k y1) : hMet l yL_doAgree cL_doAgree 3 [(0, 15, 18, 58)] { frames := 10, cells := 1, slots := 6, locals := 180 } w sz o cL x M [.ref (w.1 12 16), .ref o] k y1 M 1 6 := by
  refine h_of (by decide) (Nat.le_of_ble_eq_true rfl) ?_
  intro p e s m args below meth c hx hb hr hml hxt hown hlk hI ls hl
  have hl : lv_has ls 3 [(0, .ref (w.1 12 16)), (1, .ref o)] := hl
  refine lv_aload_n hx hb dL_doAgree_0 rfl (lv_at hl 1 rfl) ?_
  refine lv_iconst (v := 0) hx hb dL_doAgree_1 (by decide) ?_
  refine lv_aload_n hx hb dL_doAgree_2 rfl (lv_at hl 0 rfl) ?_
  refine h_call (As := []) (rest := [.int 0, .ref o]) hx hb hml hown hI (c_X11_doAgree l w hsf s.heap.size M r hf) (kb_X11_doAgree hI.1.T (q1018 hI.1.T) (Nat.le_of_ble_eq_true rfl) (Nat.le_of_ble_eq_true rfl)) (q1019 hI.1.T) (q1020 hI.1.T) (m_recv hI.1 (mokX (by decide) (by decide)) rfl rfl) rfl hl.1 (Nat.le_of_ble_eq_true rfl) dL_doAgree_3 ⟨(Nat.le_of_ble_eq_true rfl), (Nat.le_of_ble_eq_true rfl)⟩ (fun v hv H locs hI => ?_) (fun n hn ce q H locs hI hc1 hc2 hc3 => ?_)
  · obtain ⟨v9, rfl, rfl⟩ : ∃ v9, r = .inr v9 ∧ v = some (.int v9) := by
      rcases r with n9 | v9
      · cases hv
      · cases hv; exact ⟨v9, rfl, rfl⟩
    obtain ⟨rfl, rfl⟩ := hres
    refine lv_if_eq (tgt := 13) hx hb dL_doAgree_6 (by decide) (fun c2 => ?_) (fun c2 => ?_)
    · have e2 : (if v9 = 0 then (0 : Int64) else 1) = 0 := if_pos c2
      rw [show (fun v : Int32 => if v = 0 then (0 : Int64) else 1) v9 = 0 from e2]
      refine lv_lconst (v := 0) hx hb dL_doAgree_13 (by decide) ?_
      refine h_last hx hb hI dL_doAgree_14 (fun H locs hI => ?_)
      refine lv_goto (tgt := 21) hx hb dL_doAgree_15 (by decide) ?_
      refine lv_iconst (v := 0) hx hb dL_doAgree_21 (by decide) ?_
      exact h_iret hx hb hr hlk hI (Nat.le_of_ble_eq_true rfl) (Nat.le_of_ble_eq_true rfl) dL_doAgree_22
    · have e2 : (if v9 = 0 then (0 : Int64) else 1) = 1 := if_neg c2
      rw [show (fun v : Int32 => if v = 0 then (0 : Int64) else 1) v9 = 1 from e2]
      refine lv_lconst (v := 1) hx hb dL_doAgree_9 (by decide) ?_
      refine lv_goto (tgt := 14) hx hb dL_doAgree_10 (by decide) ?_
      refine h_last hx hb hI dL_doAgree_14 (fun H locs hI => ?_)
      refine lv_goto (tgt := 21) hx hb dL_doAgree_15 (by decide) ?_
      refine lv_iconst (v := 0) hx hb dL_doAgree_21 (by decide) ?_
      exact h_iret hx hb hr hlk hI (Nat.le_of_ble_eq_true rfl) (Nat.le_of_ble_eq_true rfl) dL_doAgree_22
  · obtain rfl : r = .inl n := by
      rcases r with n9 | v9
      · cases hn; rfl
      · cases hn
    obtain ⟨rfl, hk⟩ := hres
    simp only [List.mem_cons, List.not_mem_nil, or_false, Prod.mk.injEq] at hk
    obtain ⟨rfl, rfl⟩ := hk
    refine vx_catch hown [] ⟨0, 15, 18, 58⟩ [] hxt (fun z hz => nomatch hz) (by decide) (by decide) (q926 hI.1.T) (q937 hI.1.T) hc1 hc2 hc3 ?_
    refine lv_astore_n hx hb dL_doAgree_18 rfl hl (by decide) rfl (fun ls hl => ?_)
    refine lv_iconst (v := 1) hx hb dL_doAgree_19 (by decide) ?_
    exact h_iret hx hb hr hlk hI (Nat.le_of_ble_eq_true rfl) (Nat.le_of_ble_eq_true rfl) dL_doAgree_20
set_option maxRecDepth 100000 in
theorem h_mostAgreeing (l : Launch) (w : WD) (hsf : l.stackTraces = false) (sz o : Nat) (cL : ClassId) (x : Int64) (M : Mem) (r : Nat ⊕ Int32) (M9 : Mem) (hf : f_X11_mostAgreeing M = some (r, M9)) (k : Int32) (y1 : Int64) (hres : hRes [(4, 1)] (fun v => v.toInt64) x r k y1) : hMet l yL_mostAgreeing cL_mostAgreeing 3 [(0, 8, 11, 58)] { frames := 10, cells := 1, slots := 6, locals := 180 } w sz o cL x M [.ref (w.1 12 16), .ref o] k y1 M9 1 6 := by
  refine h_of (by decide) (Nat.le_of_ble_eq_true rfl) ?_
  intro p e s m args below meth c hx hb hr hml hxt hown hlk hI ls hl
  have hl : lv_has ls 3 [(0, .ref (w.1 12 16)), (1, .ref o)] := hl
  refine lv_aload_n hx hb dL_mostAgreeing_0 rfl (lv_at hl 1 rfl) ?_
  refine lv_iconst (v := 0) hx hb dL_mostAgreeing_1 (by decide) ?_
  refine lv_aload_n hx hb dL_mostAgreeing_2 rfl (lv_at hl 0 rfl) ?_
  refine h_call (As := []) (rest := [.int 0, .ref o]) hx hb hml hown hI (c_X11_mostAgreeing l w hsf s.heap.size M r M9 hf) (kb_X11_mostAgreeing hI.1.T (q1029 hI.1.T) (Nat.le_of_ble_eq_true rfl) (Nat.le_of_ble_eq_true rfl)) (q1030 hI.1.T) (q1031 hI.1.T) (m_recv hI.1 (mokX (by decide) (by decide)) rfl rfl) rfl hl.1 (Nat.le_of_ble_eq_true rfl) dL_mostAgreeing_3 ⟨(Nat.le_of_ble_eq_true rfl), (Nat.le_of_ble_eq_true rfl)⟩ (fun v hv H locs hI => ?_) (fun n hn ce q H locs hI hc1 hc2 hc3 => ?_)
  · obtain ⟨v9, rfl, rfl⟩ : ∃ v9, r = .inr v9 ∧ v = some (.int v9) := by
      rcases r with n9 | v9
      · cases hv
      · cases hv; exact ⟨v9, rfl, rfl⟩
    obtain ⟨rfl, rfl⟩ := hres
    refine lv_i2l (v := v9.toInt64) hx hb dL_mostAgreeing_6 rfl ?_
    refine h_last hx hb hI dL_mostAgreeing_7 (fun H locs hI => ?_)
    refine lv_goto (tgt := 14) hx hb dL_mostAgreeing_8 (by decide) ?_
    refine lv_iconst (v := 0) hx hb dL_mostAgreeing_14 (by decide) ?_
    exact h_iret hx hb hr hlk hI (Nat.le_of_ble_eq_true rfl) (Nat.le_of_ble_eq_true rfl) dL_mostAgreeing_15
  · obtain rfl : r = .inl n := by
      rcases r with n9 | v9
      · cases hn; rfl
      · cases hn
    obtain ⟨rfl, hk⟩ := hres
    simp only [List.mem_cons, List.not_mem_nil, or_false, Prod.mk.injEq] at hk
    obtain ⟨rfl, rfl⟩ := hk
    refine vx_catch hown [] ⟨0, 8, 11, 58⟩ [] hxt (fun z hz => nomatch hz) (by decide) (by decide) (q926 hI.1.T) (q937 hI.1.T) hc1 hc2 hc3 ?_
    refine lv_astore_n hx hb dL_mostAgreeing_11 rfl hl (by decide) rfl (fun ls hl => ?_)
    refine lv_iconst (v := 1) hx hb dL_mostAgreeing_12 (by decide) ?_
    exact h_iret hx hb hr hlk hI (Nat.le_of_ble_eq_true rfl) (Nat.le_of_ble_eq_true rfl) dL_mostAgreeing_13
set_option maxRecDepth 100000 in
theorem h_mostAgreeingBySets (l : Launch) (w : WD) (hsf : l.stackTraces = false) (sz o : Nat) (cL : ClassId) (x : Int64) (M : Mem) (r : Nat ⊕ Int32) (M9 : Mem) (hf : f_X11_mostAgreeingBySets M = some (r, M9)) (k : Int32) (y1 : Int64) (hres : hRes [(4, 1)] (fun v => v.toInt64) x r k y1) : hMet l yL_mostAgreeingBySets cL_mostAgreeingBySets 3 [(0, 8, 11, 58)] { frames := 10, cells := 1, slots := 6, locals := 180 } w sz o cL x M [.ref (w.1 12 16), .ref o] k y1 M9 1 6 := by
  refine h_of (by decide) (Nat.le_of_ble_eq_true rfl) ?_
  intro p e s m args below meth c hx hb hr hml hxt hown hlk hI ls hl
  have hl : lv_has ls 3 [(0, .ref (w.1 12 16)), (1, .ref o)] := hl
  refine lv_aload_n hx hb dL_mostAgreeingBySets_0 rfl (lv_at hl 1 rfl) ?_
  refine lv_iconst (v := 0) hx hb dL_mostAgreeingBySets_1 (by decide) ?_
  refine lv_aload_n hx hb dL_mostAgreeingBySets_2 rfl (lv_at hl 0 rfl) ?_
  refine h_call (As := []) (rest := [.int 0, .ref o]) hx hb hml hown hI (c_X11_mostAgreeingBySets l w hsf s.heap.size M r M9 hf) (kb_X11_mostAgreeingBySets hI.1.T (q1036 hI.1.T) (Nat.le_of_ble_eq_true rfl) (Nat.le_of_ble_eq_true rfl)) (q1037 hI.1.T) (q1038 hI.1.T) (m_recv hI.1 (mokX (by decide) (by decide)) rfl rfl) rfl hl.1 (Nat.le_of_ble_eq_true rfl) dL_mostAgreeingBySets_3 ⟨(Nat.le_of_ble_eq_true rfl), (Nat.le_of_ble_eq_true rfl)⟩ (fun v hv H locs hI => ?_) (fun n hn ce q H locs hI hc1 hc2 hc3 => ?_)
  · obtain ⟨v9, rfl, rfl⟩ : ∃ v9, r = .inr v9 ∧ v = some (.int v9) := by
      rcases r with n9 | v9
      · cases hv
      · cases hv; exact ⟨v9, rfl, rfl⟩
    obtain ⟨rfl, rfl⟩ := hres
    refine lv_i2l (v := v9.toInt64) hx hb dL_mostAgreeingBySets_6 rfl ?_
    refine h_last hx hb hI dL_mostAgreeingBySets_7 (fun H locs hI => ?_)
    refine lv_goto (tgt := 14) hx hb dL_mostAgreeingBySets_8 (by decide) ?_
    refine lv_iconst (v := 0) hx hb dL_mostAgreeingBySets_14 (by decide) ?_
    exact h_iret hx hb hr hlk hI (Nat.le_of_ble_eq_true rfl) (Nat.le_of_ble_eq_true rfl) dL_mostAgreeingBySets_15
  · obtain rfl : r = .inl n := by
      rcases r with n9 | v9
      · cases hn; rfl
      · cases hn
    obtain ⟨rfl, hk⟩ := hres
    simp only [List.mem_cons, List.not_mem_nil, or_false, Prod.mk.injEq] at hk
    obtain ⟨rfl, rfl⟩ := hk
    refine vx_catch hown [] ⟨0, 8, 11, 58⟩ [] hxt (fun z hz => nomatch hz) (by decide) (by decide) (q926 hI.1.T) (q937 hI.1.T) hc1 hc2 hc3 ?_
    refine lv_astore_n hx hb dL_mostAgreeingBySets_11 rfl hl (by decide) rfl (fun ls hl => ?_)
    refine lv_iconst (v := 1) hx hb dL_mostAgreeingBySets_12 (by decide) ?_
    exact h_iret hx hb hr hlk hI (Nat.le_of_ble_eq_true rfl) (Nat.le_of_ble_eq_true rfl) dL_mostAgreeingBySets_13
set_option maxRecDepth 100000 in
theorem h_zoneOf (l : Launch) (w : WD) (hsf : l.stackTraces = false) (sz o : Nat) (cL : ClassId) (x : Int64) (a1 : Int32) (M : Mem) (r : Nat ⊕ Int32) (hf : f_X11_zoneOf a1 M = some r) (k : Int32) (y1 : Int64) (hres : hRes [(1, 1)] (fun v => v.toInt64) x r k y1) : hMet l yL_zoneOf cL_zoneOf 4 [(0, 9, 12, 25)] { frames := 10, cells := 1, slots := 6, locals := 182 } w sz o cL x M [.ref (w.1 12 16), .int a1, .ref o] k y1 M 1 6 := by
  refine h_of (by decide) (Nat.le_of_ble_eq_true rfl) ?_
  intro p e s m args below meth c hx hb hr hml hxt hown hlk hI ls hl
  have hl : lv_has ls 4 [(0, .ref (w.1 12 16)), (1, .int a1), (2, .ref o)] := hl
  refine lv_aload_n hx hb dL_zoneOf_0 rfl (lv_at hl 2 rfl) ?_
  refine lv_iconst (v := 0) hx hb dL_zoneOf_1 (by decide) ?_
  refine lv_aload_n hx hb dL_zoneOf_2 rfl (lv_at hl 0 rfl) ?_
  refine lv_iload_n hx hb dL_zoneOf_3 rfl (lv_at hl 1 rfl) ?_
  refine h_call (As := [.int a1]) (rest := [.int 0, .ref o]) hx hb hml hown hI (c_X11_zoneOf l w hsf s.heap.size a1 M r hf) (kb_X11_zoneOf hI.1.T (q1043 hI.1.T) (Nat.le_of_ble_eq_true rfl) (Nat.le_of_ble_eq_true rfl)) (q1044 hI.1.T) (q1045 hI.1.T) (m_recv hI.1 (mokX (by decide) (by decide)) rfl rfl) rfl hl.1 (Nat.le_of_ble_eq_true rfl) dL_zoneOf_4 ⟨(Nat.le_of_ble_eq_true rfl), (Nat.le_of_ble_eq_true rfl)⟩ (fun v hv H locs hI => ?_) (fun n hn ce q H locs hI hc1 hc2 hc3 => ?_)
  · obtain ⟨v9, rfl, rfl⟩ : ∃ v9, r = .inr v9 ∧ v = some (.int v9) := by
      rcases r with n9 | v9
      · cases hv
      · cases hv; exact ⟨v9, rfl, rfl⟩
    obtain ⟨rfl, rfl⟩ := hres
    refine lv_i2l (v := v9.toInt64) hx hb dL_zoneOf_7 rfl ?_
    refine h_last hx hb hI dL_zoneOf_8 (fun H locs hI => ?_)
    refine lv_goto (tgt := 15) hx hb dL_zoneOf_9 (by decide) ?_
    refine lv_iconst (v := 0) hx hb dL_zoneOf_15 (by decide) ?_
    exact h_iret hx hb hr hlk hI (Nat.le_of_ble_eq_true rfl) (Nat.le_of_ble_eq_true rfl) dL_zoneOf_16
  · obtain rfl : r = .inl n := by
      rcases r with n9 | v9
      · cases hn; rfl
      · cases hn
    obtain ⟨rfl, hk⟩ := hres
    simp only [List.mem_cons, List.not_mem_nil, or_false, Prod.mk.injEq] at hk
    obtain ⟨rfl, rfl⟩ := hk
    refine vx_catch hown [] ⟨0, 9, 12, 25⟩ [] hxt (fun z hz => nomatch hz) (by decide) (by decide) (q736 hI.1.T) (q591 hI.1.T) hc1 hc2 hc3 ?_
    refine lv_astore_n hx hb dL_zoneOf_12 rfl hl (by decide) rfl (fun ls hl => ?_)
    refine lv_iconst (v := 1) hx hb dL_zoneOf_13 (by decide) ?_
    exact h_iret hx hb hr hlk hI (Nat.le_of_ble_eq_true rfl) (Nat.le_of_ble_eq_true rfl) dL_zoneOf_14
set_option maxRecDepth 100000 in
theorem h_isForwards (l : Launch) (w : WD) (hsf : l.stackTraces = false) (sz o : Nat) (cL : ClassId) (x : Int64) (a1 : Int32) (M : Mem) (r : Nat ⊕ Int32) (hf : f_X11_isForwards a1 M = some r) (k : Int32) (y1 : Int64) (hres : hRes [(1, 1)] (fun v => if v = 0 then 0 else 1) x r k y1) : hMet l yL_isForwards cL_isForwards 4 [(0, 16, 19, 25)] { frames := 10, cells := 1, slots := 6, locals := 182 } w sz o cL x M [.ref (w.1 12 16), .int a1, .ref o] k y1 M 1 6 := by
  refine h_of (by decide) (Nat.le_of_ble_eq_true rfl) ?_
  intro p e s m args below meth c hx hb hr hml hxt hown hlk hI ls hl
  have hl : lv_has ls 4 [(0, .ref (w.1 12 16)), (1, .int a1), (2, .ref o)] := hl
  refine lv_aload_n hx hb dL_isForwards_0 rfl (lv_at hl 2 rfl) ?_
  refine lv_iconst (v := 0) hx hb dL_isForwards_1 (by decide) ?_
  refine lv_aload_n hx hb dL_isForwards_2 rfl (lv_at hl 0 rfl) ?_
  refine lv_iload_n hx hb dL_isForwards_3 rfl (lv_at hl 1 rfl) ?_
  refine h_call (As := [.int a1]) (rest := [.int 0, .ref o]) hx hb hml hown hI (c_X11_isForwards l w hsf s.heap.size a1 M r hf) (kb_X11_isForwards hI.1.T (q1056 hI.1.T) (Nat.le_of_ble_eq_true rfl) (Nat.le_of_ble_eq_true rfl)) (q1057 hI.1.T) (q1058 hI.1.T) (m_recv hI.1 (mokX (by decide) (by decide)) rfl rfl) rfl hl.1 (Nat.le_of_ble_eq_true rfl) dL_isForwards_4 ⟨(Nat.le_of_ble_eq_true rfl), (Nat.le_of_ble_eq_true rfl)⟩ (fun v hv H locs hI => ?_) (fun n hn ce q H locs hI hc1 hc2 hc3 => ?_)
  · obtain ⟨v9, rfl, rfl⟩ : ∃ v9, r = .inr v9 ∧ v = some (.int v9) := by
      rcases r with n9 | v9
      · cases hv
      · cases hv; exact ⟨v9, rfl, rfl⟩
    obtain ⟨rfl, rfl⟩ := hres
    refine lv_if_eq (tgt := 14) hx hb dL_isForwards_7 (by decide) (fun c2 => ?_) (fun c2 => ?_)
    · have e2 : (if v9 = 0 then (0 : Int64) else 1) = 0 := if_pos c2
      rw [show (fun v : Int32 => if v = 0 then (0 : Int64) else 1) v9 = 0 from e2]
      refine lv_lconst (v := 0) hx hb dL_isForwards_14 (by decide) ?_
      refine h_last hx hb hI dL_isForwards_15 (fun H locs hI => ?_)
      refine lv_goto (tgt := 22) hx hb dL_isForwards_16 (by decide) ?_
      refine lv_iconst (v := 0) hx hb dL_isForwards_22 (by decide) ?_
      exact h_iret hx hb hr hlk hI (Nat.le_of_ble_eq_true rfl) (Nat.le_of_ble_eq_true rfl) dL_isForwards_23
    · have e2 : (if v9 = 0 then (0 : Int64) else 1) = 1 := if_neg c2
      rw [show (fun v : Int32 => if v = 0 then (0 : Int64) else 1) v9 = 1 from e2]
      refine lv_lconst (v := 1) hx hb dL_isForwards_10 (by decide) ?_
      refine lv_goto (tgt := 15) hx hb dL_isForwards_11 (by decide) ?_
      refine h_last hx hb hI dL_isForwards_15 (fun H locs hI => ?_)
      refine lv_goto (tgt := 22) hx hb dL_isForwards_16 (by decide) ?_
      refine lv_iconst (v := 0) hx hb dL_isForwards_22 (by decide) ?_
      exact h_iret hx hb hr hlk hI (Nat.le_of_ble_eq_true rfl) (Nat.le_of_ble_eq_true rfl) dL_isForwards_23
  · obtain rfl : r = .inl n := by
      rcases r with n9 | v9
      · cases hn; rfl
      · cases hn
    obtain ⟨rfl, hk⟩ := hres
    simp only [List.mem_cons, List.not_mem_nil, or_false, Prod.mk.injEq] at hk
    obtain ⟨rfl, rfl⟩ := hk
    refine vx_catch hown [] ⟨0, 16, 19, 25⟩ [] hxt (fun z hz => nomatch hz) (by decide) (by decide) (q736 hI.1.T) (q591 hI.1.T) hc1 hc2 hc3 ?_
    refine lv_astore_n hx hb dL_isForwards_19 rfl hl (by decide) rfl (fun ls hl => ?_)
    refine lv_iconst (v := 1) hx hb dL_isForwards_20 (by decide) ?_
    exact h_iret hx hb hr hlk hI (Nat.le_of_ble_eq_true rfl) (Nat.le_of_ble_eq_true rfl) dL_isForwards_21
set_option maxRecDepth 100000 in
theorem h_noise (l : Launch) (w : WD) (hsf : l.stackTraces = false) (sz o : Nat) (cL : ClassId) (x : Int64) (a1 : Int32) (M : Mem) (r : Nat ⊕ Int32) (hf : f_X11_noise a1 M = some r) (k : Int32) (y1 : Int64) (hres : hRes [(2, 1)] (fun v => v.toInt64) x r k y1) : hMet l yL_noise cL_noise 4 [(0, 9, 12, 19)] { frames := 10, cells := 1, slots := 6, locals := 182 } w sz o cL x M [.ref (w.1 12 16), .int a1, .ref o] k y1 M 1 6 := by
  refine h_of (by decide) (Nat.le_of_ble_eq_true rfl) ?_
  intro p e s m args below meth c hx hb hr hml hxt hown hlk hI ls hl
  have hl : lv_has ls 4 [(0, .ref (w.1 12 16)), (1, .int a1), (2, .ref o)] := hl
  refine lv_aload_n hx hb dL_noise_0 rfl (lv_at hl 2 rfl) ?_
  refine lv_iconst (v := 0) hx hb dL_noise_1 (by decide) ?_
  refine lv_aload_n hx hb dL_noise_2 rfl (lv_at hl 0 rfl) ?_
  refine lv_iload_n hx hb dL_noise_3 rfl (lv_at hl 1 rfl) ?_
  refine h_call (As := [.int a1]) (rest := [.int 0, .ref o]) hx hb hml hown hI (c_X11_noise l w hsf s.heap.size a1 M r hf) (kb_X11_noise hI.1.T (q1063 hI.1.T) (Nat.le_of_ble_eq_true rfl) (Nat.le_of_ble_eq_true rfl)) (q1064 hI.1.T) (q1065 hI.1.T) (m_recv hI.1 (mokX (by decide) (by decide)) rfl rfl) rfl hl.1 (Nat.le_of_ble_eq_true rfl) dL_noise_4 ⟨(Nat.le_of_ble_eq_true rfl), (Nat.le_of_ble_eq_true rfl)⟩ (fun v hv H locs hI => ?_) (fun n hn ce q H locs hI hc1 hc2 hc3 => ?_)
  · obtain ⟨v9, rfl, rfl⟩ : ∃ v9, r = .inr v9 ∧ v = some (.int v9) := by
      rcases r with n9 | v9
      · cases hv
      · cases hv; exact ⟨v9, rfl, rfl⟩
    obtain ⟨rfl, rfl⟩ := hres
    refine lv_i2l (v := v9.toInt64) hx hb dL_noise_7 rfl ?_
    refine h_last hx hb hI dL_noise_8 (fun H locs hI => ?_)
    refine lv_goto (tgt := 15) hx hb dL_noise_9 (by decide) ?_
    refine lv_iconst (v := 0) hx hb dL_noise_15 (by decide) ?_
    exact h_iret hx hb hr hlk hI (Nat.le_of_ble_eq_true rfl) (Nat.le_of_ble_eq_true rfl) dL_noise_16
  · obtain rfl : r = .inl n := by
      rcases r with n9 | v9
      · cases hn; rfl
      · cases hn
    obtain ⟨rfl, hk⟩ := hres
    simp only [List.mem_cons, List.not_mem_nil, or_false, Prod.mk.injEq] at hk
    obtain ⟨rfl, rfl⟩ := hk
    refine vx_catch hown [] ⟨0, 9, 12, 19⟩ [] hxt (fun z hz => nomatch hz) (by decide) (by decide) (q713 hI.1.T) (q663 hI.1.T) hc1 hc2 hc3 ?_
    refine lv_astore_n hx hb dL_noise_12 rfl hl (by decide) rfl (fun ls hl => ?_)
    refine lv_iconst (v := 1) hx hb dL_noise_13 (by decide) ?_
    exact h_iret hx hb hr hlk hI (Nat.le_of_ble_eq_true rfl) (Nat.le_of_ble_eq_true rfl) dL_noise_14
set_option maxRecDepth 100000 in
theorem h_isGuarded (l : Launch) (w : WD) (hsf : l.stackTraces = false) (sz o : Nat) (cL : ClassId) (x : Int64) (a1 : Int32) (M : Mem) (r : Nat ⊕ Int32) (hf : f_X11_isGuarded a1 M = some r) (k : Int32) (y1 : Int64) (hres : hRes [(2, 1)] (fun v => if v = 0 then 0 else 1) x r k y1) : hMet l yL_isGuarded cL_isGuarded 4 [(0, 16, 19, 19)] { frames := 10, cells := 1, slots := 6, locals := 182 } w sz o cL x M [.ref (w.1 12 16), .int a1, .ref o] k y1 M 1 6 := by
  refine h_of (by decide) (Nat.le_of_ble_eq_true rfl) ?_
  intro p e s m args below meth c hx hb hr hml hxt hown hlk hI ls hl
  have hl : lv_has ls 4 [(0, .ref (w.1 12 16)), (1, .int a1), (2, .ref o)] := hl
  refine lv_aload_n hx hb dL_isGuarded_0 rfl (lv_at hl 2 rfl) ?_
  refine lv_iconst (v := 0) hx hb dL_isGuarded_1 (by decide) ?_
  refine lv_aload_n hx hb dL_isGuarded_2 rfl (lv_at hl 0 rfl) ?_
  refine lv_iload_n hx hb dL_isGuarded_3 rfl (lv_at hl 1 rfl) ?_
  refine h_call (As := [.int a1]) (rest := [.int 0, .ref o]) hx hb hml hown hI (c_X11_isGuarded l w hsf s.heap.size a1 M r hf) (kb_X11_isGuarded hI.1.T (q1076 hI.1.T) (Nat.le_of_ble_eq_true rfl) (Nat.le_of_ble_eq_true rfl)) (q1077 hI.1.T) (q1078 hI.1.T) (m_recv hI.1 (mokX (by decide) (by decide)) rfl rfl) rfl hl.1 (Nat.le_of_ble_eq_true rfl) dL_isGuarded_4 ⟨(Nat.le_of_ble_eq_true rfl), (Nat.le_of_ble_eq_true rfl)⟩ (fun v hv H locs hI => ?_) (fun n hn ce q H locs hI hc1 hc2 hc3 => ?_)
  · obtain ⟨v9, rfl, rfl⟩ : ∃ v9, r = .inr v9 ∧ v = some (.int v9) := by
      rcases r with n9 | v9
      · cases hv
      · cases hv; exact ⟨v9, rfl, rfl⟩
    obtain ⟨rfl, rfl⟩ := hres
    refine lv_if_eq (tgt := 14) hx hb dL_isGuarded_7 (by decide) (fun c2 => ?_) (fun c2 => ?_)
    · have e2 : (if v9 = 0 then (0 : Int64) else 1) = 0 := if_pos c2
      rw [show (fun v : Int32 => if v = 0 then (0 : Int64) else 1) v9 = 0 from e2]
      refine lv_lconst (v := 0) hx hb dL_isGuarded_14 (by decide) ?_
      refine h_last hx hb hI dL_isGuarded_15 (fun H locs hI => ?_)
      refine lv_goto (tgt := 22) hx hb dL_isGuarded_16 (by decide) ?_
      refine lv_iconst (v := 0) hx hb dL_isGuarded_22 (by decide) ?_
      exact h_iret hx hb hr hlk hI (Nat.le_of_ble_eq_true rfl) (Nat.le_of_ble_eq_true rfl) dL_isGuarded_23
    · have e2 : (if v9 = 0 then (0 : Int64) else 1) = 1 := if_neg c2
      rw [show (fun v : Int32 => if v = 0 then (0 : Int64) else 1) v9 = 1 from e2]
      refine lv_lconst (v := 1) hx hb dL_isGuarded_10 (by decide) ?_
      refine lv_goto (tgt := 15) hx hb dL_isGuarded_11 (by decide) ?_
      refine h_last hx hb hI dL_isGuarded_15 (fun H locs hI => ?_)
      refine lv_goto (tgt := 22) hx hb dL_isGuarded_16 (by decide) ?_
      refine lv_iconst (v := 0) hx hb dL_isGuarded_22 (by decide) ?_
      exact h_iret hx hb hr hlk hI (Nat.le_of_ble_eq_true rfl) (Nat.le_of_ble_eq_true rfl) dL_isGuarded_23
  · obtain rfl : r = .inl n := by
      rcases r with n9 | v9
      · cases hn; rfl
      · cases hn
    obtain ⟨rfl, hk⟩ := hres
    simp only [List.mem_cons, List.not_mem_nil, or_false, Prod.mk.injEq] at hk
    obtain ⟨rfl, rfl⟩ := hk
    refine vx_catch hown [] ⟨0, 16, 19, 19⟩ [] hxt (fun z hz => nomatch hz) (by decide) (by decide) (q713 hI.1.T) (q663 hI.1.T) hc1 hc2 hc3 ?_
    refine lv_astore_n hx hb dL_isGuarded_19 rfl hl (by decide) rfl (fun ls hl => ?_)
    refine lv_iconst (v := 1) hx hb dL_isGuarded_20 (by decide) ?_
    exact h_iret hx hb hr hlk hI (Nat.le_of_ble_eq_true rfl) (Nat.le_of_ble_eq_true rfl) dL_isGuarded_21
set_option maxRecDepth 100000 in
theorem h_hoursUntilVisit (l : Launch) (w : WD) (hsf : l.stackTraces = false) (sz o : Nat) (cL : ClassId) (x : Int64) (a1 : Int32) (M : Mem) (r : Nat ⊕ Int32) (M9 : Mem) (hf : f_X11_hoursUntilVisit a1 M = some (r, M9)) (k : Int32) (y1 : Int64) (hres : hRes [(2, 1), (4, 2)] (fun v => v.toInt64) x r k y1) : hMet l yL_hoursUntilVisit cL_hoursUntilVisit 4 [(0, 9, 12, 19), (0, 9, 15, 58)] { frames := 10, cells := 2, slots := 12, locals := 182 } w sz o cL x M [.ref (w.1 12 16), .int a1, .ref o] k y1 M9 2 12 := by
  refine h_of (by decide) (Nat.le_of_ble_eq_true rfl) ?_
  intro p e s m args below meth c hx hb hr hml hxt hown hlk hI ls hl
  have hl : lv_has ls 4 [(0, .ref (w.1 12 16)), (1, .int a1), (2, .ref o)] := hl
  refine lv_aload_n hx hb dL_hoursUntilVisit_0 rfl (lv_at hl 2 rfl) ?_
  refine lv_iconst (v := 0) hx hb dL_hoursUntilVisit_1 (by decide) ?_
  refine lv_aload_n hx hb dL_hoursUntilVisit_2 rfl (lv_at hl 0 rfl) ?_
  refine lv_iload_n hx hb dL_hoursUntilVisit_3 rfl (lv_at hl 1 rfl) ?_
  refine h_call (As := [.int a1]) (rest := [.int 0, .ref o]) hx hb hml hown hI (c_X11_hoursUntilVisit l w hsf s.heap.size a1 M r M9 hf) (kb_X11_hoursUntilVisit hI.1.T (q1084 hI.1.T) (Nat.le_of_ble_eq_true rfl) (Nat.le_of_ble_eq_true rfl)) (q1085 hI.1.T) (q1086 hI.1.T) (m_recv hI.1 (mokX (by decide) (by decide)) rfl rfl) rfl hl.1 (Nat.le_of_ble_eq_true rfl) dL_hoursUntilVisit_4 ⟨(Nat.le_of_ble_eq_true rfl), (Nat.le_of_ble_eq_true rfl)⟩ (fun v hv H locs hI => ?_) (fun n hn ce q H locs hI hc1 hc2 hc3 => ?_)
  · obtain ⟨v9, rfl, rfl⟩ : ∃ v9, r = .inr v9 ∧ v = some (.int v9) := by
      rcases r with n9 | v9
      · cases hv
      · cases hv; exact ⟨v9, rfl, rfl⟩
    obtain ⟨rfl, rfl⟩ := hres
    refine lv_i2l (v := v9.toInt64) hx hb dL_hoursUntilVisit_7 rfl ?_
    refine h_last hx hb hI dL_hoursUntilVisit_8 (fun H locs hI => ?_)
    refine lv_goto (tgt := 18) hx hb dL_hoursUntilVisit_9 (by decide) ?_
    refine lv_iconst (v := 0) hx hb dL_hoursUntilVisit_18 (by decide) ?_
    exact h_iret hx hb hr hlk hI (Nat.le_of_ble_eq_true rfl) (Nat.le_of_ble_eq_true rfl) dL_hoursUntilVisit_19
  · obtain rfl : r = .inl n := by
      rcases r with n9 | v9
      · cases hn; rfl
      · cases hn
    obtain ⟨rfl, hk⟩ := hres
    simp only [List.mem_cons, List.not_mem_nil, or_false, Prod.mk.injEq] at hk
    rcases hk with ⟨rfl, rfl⟩ | ⟨rfl, rfl⟩
    · refine vx_catch hown [] ⟨0, 9, 12, 19⟩ [⟨0, 9, 15, 58⟩] hxt (fun z hz => nomatch hz) (by decide) (by decide) (q713 hI.1.T) (q663 hI.1.T) hc1 hc2 hc3 ?_
      refine lv_astore_n hx hb dL_hoursUntilVisit_12 rfl hl (by decide) rfl (fun ls hl => ?_)
      refine lv_iconst (v := 1) hx hb dL_hoursUntilVisit_13 (by decide) ?_
      exact h_iret hx hb hr hlk hI (Nat.le_of_ble_eq_true rfl) (Nat.le_of_ble_eq_true rfl) dL_hoursUntilVisit_14
    · refine vx_catch hown [⟨0, 9, 12, 19⟩] ⟨0, 9, 15, 58⟩ [] hxt (fun z hz => by rcases List.mem_cons.mp hz with rfl | hz; exact Or.inr ⟨by decide, _, (q713 hI.1.T), hI.1.nc (i := 4) (j := 2) (by decide) (by decide) (by decide) (by decide) (by decide)⟩; exact nomatch hz) (by decide) (by decide) (q926 hI.1.T) (q937 hI.1.T) hc1 hc2 hc3 ?_
      refine lv_astore_n hx hb dL_hoursUntilVisit_15 rfl hl (by decide) rfl (fun ls hl => ?_)
      refine lv_iconst (v := 2) hx hb dL_hoursUntilVisit_16 (by decide) ?_
      exact h_iret hx hb hr hlk hI (Nat.le_of_ble_eq_true rfl) (Nat.le_of_ble_eq_true rfl) dL_hoursUntilVisit_17
set_option maxRecDepth 100000 in
theorem h_hoursUntilVisitByRemainders (l : Launch) (w : WD) (hsf : l.stackTraces = false) (sz o : Nat) (cL : ClassId) (x : Int64) (a1 : Int32) (M : Mem) (r : Nat ⊕ Int32) (hf : f_X11_hoursUntilVisitByRemainders a1 M = some r) (k : Int32) (y1 : Int64) (hres : hRes [(2, 1), (4, 2)] (fun v => v.toInt64) x r k y1) : hMet l yL_hoursUntilVisitByRemainders cL_hoursUntilVisitByRemainders 4 [(0, 9, 12, 19), (0, 9, 15, 58)] { frames := 10, cells := 2, slots := 12, locals := 182 } w sz o cL x M [.ref (w.1 12 16), .int a1, .ref o] k y1 M 2 12 := by
  refine h_of (by decide) (Nat.le_of_ble_eq_true rfl) ?_
  intro p e s m args below meth c hx hb hr hml hxt hown hlk hI ls hl
  have hl : lv_has ls 4 [(0, .ref (w.1 12 16)), (1, .int a1), (2, .ref o)] := hl
  refine lv_aload_n hx hb dL_hoursUntilVisitByRemainders_0 rfl (lv_at hl 2 rfl) ?_
  refine lv_iconst (v := 0) hx hb dL_hoursUntilVisitByRemainders_1 (by decide) ?_
  refine lv_aload_n hx hb dL_hoursUntilVisitByRemainders_2 rfl (lv_at hl 0 rfl) ?_
  refine lv_iload_n hx hb dL_hoursUntilVisitByRemainders_3 rfl (lv_at hl 1 rfl) ?_
  refine h_call (As := [.int a1]) (rest := [.int 0, .ref o]) hx hb hml hown hI (c_X11_hoursUntilVisitByRemainders l w hsf s.heap.size a1 M r hf) (kb_X11_hoursUntilVisitByRemainders hI.1.T (q1096 hI.1.T) (Nat.le_of_ble_eq_true rfl) (Nat.le_of_ble_eq_true rfl)) (q1097 hI.1.T) (q1098 hI.1.T) (m_recv hI.1 (mokX (by decide) (by decide)) rfl rfl) rfl hl.1 (Nat.le_of_ble_eq_true rfl) dL_hoursUntilVisitByRemainders_4 ⟨(Nat.le_of_ble_eq_true rfl), (Nat.le_of_ble_eq_true rfl)⟩ (fun v hv H locs hI => ?_) (fun n hn ce q H locs hI hc1 hc2 hc3 => ?_)
  · obtain ⟨v9, rfl, rfl⟩ : ∃ v9, r = .inr v9 ∧ v = some (.int v9) := by
      rcases r with n9 | v9
      · cases hv
      · cases hv; exact ⟨v9, rfl, rfl⟩
    obtain ⟨rfl, rfl⟩ := hres
    refine lv_i2l (v := v9.toInt64) hx hb dL_hoursUntilVisitByRemainders_7 rfl ?_
    refine h_last hx hb hI dL_hoursUntilVisitByRemainders_8 (fun H locs hI => ?_)
    refine lv_goto (tgt := 18) hx hb dL_hoursUntilVisitByRemainders_9 (by decide) ?_
    refine lv_iconst (v := 0) hx hb dL_hoursUntilVisitByRemainders_18 (by decide) ?_
    exact h_iret hx hb hr hlk hI (Nat.le_of_ble_eq_true rfl) (Nat.le_of_ble_eq_true rfl) dL_hoursUntilVisitByRemainders_19
  · obtain rfl : r = .inl n := by
      rcases r with n9 | v9
      · cases hn; rfl
      · cases hn
    obtain ⟨rfl, hk⟩ := hres
    simp only [List.mem_cons, List.not_mem_nil, or_false, Prod.mk.injEq] at hk
    rcases hk with ⟨rfl, rfl⟩ | ⟨rfl, rfl⟩
    · refine vx_catch hown [] ⟨0, 9, 12, 19⟩ [⟨0, 9, 15, 58⟩] hxt (fun z hz => nomatch hz) (by decide) (by decide) (q713 hI.1.T) (q663 hI.1.T) hc1 hc2 hc3 ?_
      refine lv_astore_n hx hb dL_hoursUntilVisitByRemainders_12 rfl hl (by decide) rfl (fun ls hl => ?_)
      refine lv_iconst (v := 1) hx hb dL_hoursUntilVisitByRemainders_13 (by decide) ?_
      exact h_iret hx hb hr hlk hI (Nat.le_of_ble_eq_true rfl) (Nat.le_of_ble_eq_true rfl) dL_hoursUntilVisitByRemainders_14
    · refine vx_catch hown [⟨0, 9, 12, 19⟩] ⟨0, 9, 15, 58⟩ [] hxt (fun z hz => by rcases List.mem_cons.mp hz with rfl | hz; exact Or.inr ⟨by decide, _, (q713 hI.1.T), hI.1.nc (i := 4) (j := 2) (by decide) (by decide) (by decide) (by decide) (by decide)⟩; exact nomatch hz) (by decide) (by decide) (q926 hI.1.T) (q937 hI.1.T) hc1 hc2 hc3 ?_
      refine lv_astore_n hx hb dL_hoursUntilVisitByRemainders_15 rfl hl (by decide) rfl (fun ls hl => ?_)
      refine lv_iconst (v := 2) hx hb dL_hoursUntilVisitByRemainders_16 (by decide) ?_
      exact h_iret hx hb hr hlk hI (Nat.le_of_ble_eq_true rfl) (Nat.le_of_ble_eq_true rfl) dL_hoursUntilVisitByRemainders_17
set_option maxRecDepth 100000 in
theorem h_alarmsIn (l : Launch) (w : WD) (hsf : l.stackTraces = false) (sz o : Nat) (cL : ClassId) (x : Int64) (a1 : Int32) (M : Mem) (r : Nat ⊕ Int32) (M9 : Mem) (hf : f_X11_alarmsIn a1 M = some (r, M9)) (k : Int32) (y1 : Int64) (hres : hRes [(2, 1)] (fun v => v.toInt64) x r k y1) : hMet l yL_alarmsIn cL_alarmsIn 4 [(0, 9, 12, 19)] { frames := 9, cells := 1, slots := 6, locals := 162 } w sz o cL x M [.ref (w.1 12 16), .int a1, .ref o] k y1 M9 1 6 := by
  refine h_of (by decide) (Nat.le_of_ble_eq_true rfl) ?_
  intro p e s m args below meth c hx hb hr hml hxt hown hlk hI ls hl
  have hl : lv_has ls 4 [(0, .ref (w.1 12 16)), (1, .int a1), (2, .ref o)] := hl
  refine lv_aload_n hx hb dL_alarmsIn_0 rfl (lv_at hl 2 rfl) ?_
  refine lv_iconst (v := 0) hx hb dL_alarmsIn_1 (by decide) ?_
  refine lv_aload_n hx hb dL_alarmsIn_2 rfl (lv_at hl 0 rfl) ?_
  refine lv_iload_n hx hb dL_alarmsIn_3 rfl (lv_at hl 1 rfl) ?_
  refine h_call (As := [.int a1]) (rest := [.int 0, .ref o]) hx hb hml hown hI (c_X11_alarmsIn l w hsf s.heap.size a1 M r M9 hf) (kb_X11_alarmsIn hI.1.T (q1103 hI.1.T) (Nat.le_of_ble_eq_true rfl) (Nat.le_of_ble_eq_true rfl)) (q1104 hI.1.T) (q1105 hI.1.T) (m_recv hI.1 (mokX (by decide) (by decide)) rfl rfl) rfl hl.1 (Nat.le_of_ble_eq_true rfl) dL_alarmsIn_4 ⟨(Nat.le_of_ble_eq_true rfl), (Nat.le_of_ble_eq_true rfl)⟩ (fun v hv H locs hI => ?_) (fun n hn ce q H locs hI hc1 hc2 hc3 => ?_)
  · obtain ⟨v9, rfl, rfl⟩ : ∃ v9, r = .inr v9 ∧ v = some (.int v9) := by
      rcases r with n9 | v9
      · cases hv
      · cases hv; exact ⟨v9, rfl, rfl⟩
    obtain ⟨rfl, rfl⟩ := hres
    refine lv_i2l (v := v9.toInt64) hx hb dL_alarmsIn_7 rfl ?_
    refine h_last hx hb hI dL_alarmsIn_8 (fun H locs hI => ?_)
    refine lv_goto (tgt := 15) hx hb dL_alarmsIn_9 (by decide) ?_
    refine lv_iconst (v := 0) hx hb dL_alarmsIn_15 (by decide) ?_
    exact h_iret hx hb hr hlk hI (Nat.le_of_ble_eq_true rfl) (Nat.le_of_ble_eq_true rfl) dL_alarmsIn_16
  · obtain rfl : r = .inl n := by
      rcases r with n9 | v9
      · cases hn; rfl
      · cases hn
    obtain ⟨rfl, hk⟩ := hres
    simp only [List.mem_cons, List.not_mem_nil, or_false, Prod.mk.injEq] at hk
    obtain ⟨rfl, rfl⟩ := hk
    refine vx_catch hown [] ⟨0, 9, 12, 19⟩ [] hxt (fun z hz => nomatch hz) (by decide) (by decide) (q713 hI.1.T) (q663 hI.1.T) hc1 hc2 hc3 ?_
    refine lv_astore_n hx hb dL_alarmsIn_12 rfl hl (by decide) rfl (fun ls hl => ?_)
    refine lv_iconst (v := 1) hx hb dL_alarmsIn_13 (by decide) ?_
    exact h_iret hx hb hr hlk hI (Nat.le_of_ble_eq_true rfl) (Nat.le_of_ble_eq_true rfl) dL_alarmsIn_14
set_option maxRecDepth 100000 in
theorem h_zoneByNoise (l : Launch) (w : WD) (hsf : l.stackTraces = false) (sz o : Nat) (cL : ClassId) (x : Int64) (a1 : Int32) (M : Mem) (r : Nat ⊕ Int32) (hf : f_X11_zoneByNoise a1 M = some r) (k : Int32) (y1 : Int64) (hres : hRes [(4, 1)] (fun v => v.toInt64) x r k y1) : hMet l yL_zoneByNoise cL_zoneByNoise 4 [(0, 9, 12, 58)] { frames := 9, cells := 1, slots := 6, locals := 161 } w sz o cL x M [.ref (w.1 12 16), .int a1, .ref o] k y1 M 1 6 := by
  refine h_of (by decide) (Nat.le_of_ble_eq_true rfl) ?_
  intro p e s m args below meth c hx hb hr hml hxt hown hlk hI ls hl
  have hl : lv_has ls 4 [(0, .ref (w.1 12 16)), (1, .int a1), (2, .ref o)] := hl
  refine lv_aload_n hx hb dL_zoneByNoise_0 rfl (lv_at hl 2 rfl) ?_
  refine lv_iconst (v := 0) hx hb dL_zoneByNoise_1 (by decide) ?_
  refine lv_aload_n hx hb dL_zoneByNoise_2 rfl (lv_at hl 0 rfl) ?_
  refine lv_iload_n hx hb dL_zoneByNoise_3 rfl (lv_at hl 1 rfl) ?_
  refine h_call (As := [.int a1]) (rest := [.int 0, .ref o]) hx hb hml hown hI (c_X11_zoneByNoise l w hsf s.heap.size a1 M r hf) (kb_X11_zoneByNoise hI.1.T (q1112 hI.1.T) (Nat.le_of_ble_eq_true rfl) (Nat.le_of_ble_eq_true rfl)) (q1113 hI.1.T) (q1114 hI.1.T) (m_recv hI.1 (mokX (by decide) (by decide)) rfl rfl) rfl hl.1 (Nat.le_of_ble_eq_true rfl) dL_zoneByNoise_4 ⟨(Nat.le_of_ble_eq_true rfl), (Nat.le_of_ble_eq_true rfl)⟩ (fun v hv H locs hI => ?_) (fun n hn ce q H locs hI hc1 hc2 hc3 => ?_)
  · obtain ⟨v9, rfl, rfl⟩ : ∃ v9, r = .inr v9 ∧ v = some (.int v9) := by
      rcases r with n9 | v9
      · cases hv
      · cases hv; exact ⟨v9, rfl, rfl⟩
    obtain ⟨rfl, rfl⟩ := hres
    refine lv_i2l (v := v9.toInt64) hx hb dL_zoneByNoise_7 rfl ?_
    refine h_last hx hb hI dL_zoneByNoise_8 (fun H locs hI => ?_)
    refine lv_goto (tgt := 15) hx hb dL_zoneByNoise_9 (by decide) ?_
    refine lv_iconst (v := 0) hx hb dL_zoneByNoise_15 (by decide) ?_
    exact h_iret hx hb hr hlk hI (Nat.le_of_ble_eq_true rfl) (Nat.le_of_ble_eq_true rfl) dL_zoneByNoise_16
  · obtain rfl : r = .inl n := by
      rcases r with n9 | v9
      · cases hn; rfl
      · cases hn
    obtain ⟨rfl, hk⟩ := hres
    simp only [List.mem_cons, List.not_mem_nil, or_false, Prod.mk.injEq] at hk
    obtain ⟨rfl, rfl⟩ := hk
    refine vx_catch hown [] ⟨0, 9, 12, 58⟩ [] hxt (fun z hz => nomatch hz) (by decide) (by decide) (q926 hI.1.T) (q937 hI.1.T) hc1 hc2 hc3 ?_
    refine lv_astore_n hx hb dL_zoneByNoise_12 rfl hl (by decide) rfl (fun ls hl => ?_)
    refine lv_iconst (v := 1) hx hb dL_zoneByNoise_13 (by decide) ?_
    exact h_iret hx hb hr hlk hI (Nat.le_of_ble_eq_true rfl) (Nat.le_of_ble_eq_true rfl) dL_zoneByNoise_14
set_option maxRecDepth 100000 in
theorem h_alarmsOf (l : Launch) (w : WD) (hsf : l.stackTraces = false) (sz o : Nat) (cL : ClassId) (x : Int64) (a1 : Int32) (M : Mem) (r : Nat ⊕ Int32) (hf : f_X11_alarmsOf a1 M = some r) (k : Int32) (y1 : Int64) (hres : hRes [(2, 1)] (fun v => v.toInt64) x r k y1) : hMet l yL_alarmsOf cL_alarmsOf 4 [(0, 9, 12, 19)] { frames := 10, cells := 1, slots := 6, locals := 182 } w sz o cL x M [.ref (w.1 12 16), .int a1, .ref o] k y1 M 1 6 := by
  refine h_of (by decide) (Nat.le_of_ble_eq_true rfl) ?_
  intro p e s m args below meth c hx hb hr hml hxt hown hlk hI ls hl
  have hl : lv_has ls 4 [(0, .ref (w.1 12 16)), (1, .int a1), (2, .ref o)] := hl
  refine lv_aload_n hx hb dL_alarmsOf_0 rfl (lv_at hl 2 rfl) ?_
  refine lv_iconst (v := 0) hx hb dL_alarmsOf_1 (by decide) ?_
  refine lv_aload_n hx hb dL_alarmsOf_2 rfl (lv_at hl 0 rfl) ?_
  refine lv_iload_n hx hb dL_alarmsOf_3 rfl (lv_at hl 1 rfl) ?_
  refine h_call (As := [.int a1]) (rest := [.int 0, .ref o]) hx hb hml hown hI (c_X11_alarmsOf l w hsf s.heap.size a1 M r hf) (kb_X11_alarmsOf hI.1.T (q1132 hI.1.T) (Nat.le_of_ble_eq_true rfl) (Nat.le_of_ble_eq_true rfl)) (q1133 hI.1.T) (q1134 hI.1.T) (m_recv hI.1 (mokX (by decide) (by decide)) rfl rfl) rfl hl.1 (Nat.le_of_ble_eq_true rfl) dL_alarmsOf_4 ⟨(Nat.le_of_ble_eq_true rfl), (Nat.le_of_ble_eq_true rfl)⟩ (fun v hv H locs hI => ?_) (fun n hn ce q H locs hI hc1 hc2 hc3 => ?_)
  · obtain ⟨v9, rfl, rfl⟩ : ∃ v9, r = .inr v9 ∧ v = some (.int v9) := by
      rcases r with n9 | v9
      · cases hv
      · cases hv; exact ⟨v9, rfl, rfl⟩
    obtain ⟨rfl, rfl⟩ := hres
    refine lv_i2l (v := v9.toInt64) hx hb dL_alarmsOf_7 rfl ?_
    refine h_last hx hb hI dL_alarmsOf_8 (fun H locs hI => ?_)
    refine lv_goto (tgt := 15) hx hb dL_alarmsOf_9 (by decide) ?_
    refine lv_iconst (v := 0) hx hb dL_alarmsOf_15 (by decide) ?_
    exact h_iret hx hb hr hlk hI (Nat.le_of_ble_eq_true rfl) (Nat.le_of_ble_eq_true rfl) dL_alarmsOf_16
  · obtain rfl : r = .inl n := by
      rcases r with n9 | v9
      · cases hn; rfl
      · cases hn
    obtain ⟨rfl, hk⟩ := hres
    simp only [List.mem_cons, List.not_mem_nil, or_false, Prod.mk.injEq] at hk
    obtain ⟨rfl, rfl⟩ := hk
    refine vx_catch hown [] ⟨0, 9, 12, 19⟩ [] hxt (fun z hz => nomatch hz) (by decide) (by decide) (q713 hI.1.T) (q663 hI.1.T) hc1 hc2 hc3 ?_
    refine lv_astore_n hx hb dL_alarmsOf_12 rfl hl (by decide) rfl (fun ls hl => ?_)
    refine lv_iconst (v := 1) hx hb dL_alarmsOf_13 (by decide) ?_
    exact h_iret hx hb hr hlk hI (Nat.le_of_ble_eq_true rfl) (Nat.le_of_ble_eq_true rfl) dL_alarmsOf_14
set_option maxRecDepth 100000 in
theorem h_logHour (l : Launch) (w : WD) (hsf : l.stackTraces = false) (sz o : Nat) (cL : ClassId) (x : Int64) (a1 : Int32) (M : Mem) (r : Nat ⊕ Int32) (hf : f_X11_logHour a1 M = some r) (k : Int32) (y1 : Int64) (hres : hRes [(4, 1)] (fun v => v.toInt64) x r k y1) : hMet l yL_logHour cL_logHour 4 [(0, 9, 12, 58)] { frames := 10, cells := 1, slots := 6, locals := 182 } w sz o cL x M [.ref (w.1 12 16), .int a1, .ref o] k y1 M 1 6 := by
  refine h_of (by decide) (Nat.le_of_ble_eq_true rfl) ?_
  intro p e s m args below meth c hx hb hr hml hxt hown hlk hI ls hl
  have hl : lv_has ls 4 [(0, .ref (w.1 12 16)), (1, .int a1), (2, .ref o)] := hl
  refine lv_aload_n hx hb dL_logHour_0 rfl (lv_at hl 2 rfl) ?_
  refine lv_iconst (v := 0) hx hb dL_logHour_1 (by decide) ?_
  refine lv_aload_n hx hb dL_logHour_2 rfl (lv_at hl 0 rfl) ?_
  refine lv_iload_n hx hb dL_logHour_3 rfl (lv_at hl 1 rfl) ?_
  refine h_call (As := [.int a1]) (rest := [.int 0, .ref o]) hx hb hml hown hI (c_X11_logHour l w hsf s.heap.size a1 M r hf) (kb_X11_logHour hI.1.T (q1139 hI.1.T) (Nat.le_of_ble_eq_true rfl) (Nat.le_of_ble_eq_true rfl)) (q1140 hI.1.T) (q1141 hI.1.T) (m_recv hI.1 (mokX (by decide) (by decide)) rfl rfl) rfl hl.1 (Nat.le_of_ble_eq_true rfl) dL_logHour_4 ⟨(Nat.le_of_ble_eq_true rfl), (Nat.le_of_ble_eq_true rfl)⟩ (fun v hv H locs hI => ?_) (fun n hn ce q H locs hI hc1 hc2 hc3 => ?_)
  · obtain ⟨v9, rfl, rfl⟩ : ∃ v9, r = .inr v9 ∧ v = some (.int v9) := by
      rcases r with n9 | v9
      · cases hv
      · cases hv; exact ⟨v9, rfl, rfl⟩
    obtain ⟨rfl, rfl⟩ := hres
    refine lv_i2l (v := v9.toInt64) hx hb dL_logHour_7 rfl ?_
    refine h_last hx hb hI dL_logHour_8 (fun H locs hI => ?_)
    refine lv_goto (tgt := 15) hx hb dL_logHour_9 (by decide) ?_
    refine lv_iconst (v := 0) hx hb dL_logHour_15 (by decide) ?_
    exact h_iret hx hb hr hlk hI (Nat.le_of_ble_eq_true rfl) (Nat.le_of_ble_eq_true rfl) dL_logHour_16
  · obtain rfl : r = .inl n := by
      rcases r with n9 | v9
      · cases hn; rfl
      · cases hn
    obtain ⟨rfl, hk⟩ := hres
    simp only [List.mem_cons, List.not_mem_nil, or_false, Prod.mk.injEq] at hk
    obtain ⟨rfl, rfl⟩ := hk
    refine vx_catch hown [] ⟨0, 9, 12, 58⟩ [] hxt (fun z hz => nomatch hz) (by decide) (by decide) (q926 hI.1.T) (q937 hI.1.T) hc1 hc2 hc3 ?_
    refine lv_astore_n hx hb dL_logHour_12 rfl hl (by decide) rfl (fun ls hl => ?_)
    refine lv_iconst (v := 1) hx hb dL_logHour_13 (by decide) ?_
    exact h_iret hx hb hr hlk hI (Nat.le_of_ble_eq_true rfl) (Nat.le_of_ble_eq_true rfl) dL_logHour_14
set_option maxRecDepth 100000 in
theorem h_logKind (l : Launch) (w : WD) (hsf : l.stackTraces = false) (sz o : Nat) (cL : ClassId) (x : Int64) (a1 : Int32) (M : Mem) (r : Nat ⊕ Int32) (hf : f_X11_logKind a1 M = some r) (k : Int32) (y1 : Int64) (hres : hRes [(4, 1)] (fun v => v.toInt64) x r k y1) : hMet l yL_logKind cL_logKind 4 [(0, 9, 12, 58)] { frames := 10, cells := 1, slots := 6, locals := 182 } w sz o cL x M [.ref (w.1 12 16), .int a1, .ref o] k y1 M 1 6 := by
  refine h_of (by decide) (Nat.le_of_ble_eq_true rfl) ?_
  intro p e s m args below meth c hx hb hr hml hxt hown hlk hI ls hl
  have hl : lv_has ls 4 [(0, .ref (w.1 12 16)), (1, .int a1), (2, .ref o)] := hl
  refine lv_aload_n hx hb dL_logKind_0 rfl (lv_at hl 2 rfl) ?_
  refine lv_iconst (v := 0) hx hb dL_logKind_1 (by decide) ?_
  refine lv_aload_n hx hb dL_logKind_2 rfl (lv_at hl 0 rfl) ?_
  refine lv_iload_n hx hb dL_logKind_3 rfl (lv_at hl 1 rfl) ?_
  refine h_call (As := [.int a1]) (rest := [.int 0, .ref o]) hx hb hml hown hI (c_X11_logKind l w hsf s.heap.size a1 M r hf) (kb_X11_logKind hI.1.T (q1151 hI.1.T) (Nat.le_of_ble_eq_true rfl) (Nat.le_of_ble_eq_true rfl)) (q1152 hI.1.T) (q1153 hI.1.T) (m_recv hI.1 (mokX (by decide) (by decide)) rfl rfl) rfl hl.1 (Nat.le_of_ble_eq_true rfl) dL_logKind_4 ⟨(Nat.le_of_ble_eq_true rfl), (Nat.le_of_ble_eq_true rfl)⟩ (fun v hv H locs hI => ?_) (fun n hn ce q H locs hI hc1 hc2 hc3 => ?_)
  · obtain ⟨v9, rfl, rfl⟩ : ∃ v9, r = .inr v9 ∧ v = some (.int v9) := by
      rcases r with n9 | v9
      · cases hv
      · cases hv; exact ⟨v9, rfl, rfl⟩
    obtain ⟨rfl, rfl⟩ := hres
    refine lv_i2l (v := v9.toInt64) hx hb dL_logKind_7 rfl ?_
    refine h_last hx hb hI dL_logKind_8 (fun H locs hI => ?_)
    refine lv_goto (tgt := 15) hx hb dL_logKind_9 (by decide) ?_
    refine lv_iconst (v := 0) hx hb dL_logKind_15 (by decide) ?_
    exact h_iret hx hb hr hlk hI (Nat.le_of_ble_eq_true rfl) (Nat.le_of_ble_eq_true rfl) dL_logKind_16
  · obtain rfl : r = .inl n := by
      rcases r with n9 | v9
      · cases hn; rfl
      · cases hn
    obtain ⟨rfl, hk⟩ := hres
    simp only [List.mem_cons, List.not_mem_nil, or_false, Prod.mk.injEq] at hk
    obtain ⟨rfl, rfl⟩ := hk
    refine vx_catch hown [] ⟨0, 9, 12, 58⟩ [] hxt (fun z hz => nomatch hz) (by decide) (by decide) (q926 hI.1.T) (q937 hI.1.T) hc1 hc2 hc3 ?_
    refine lv_astore_n hx hb dL_logKind_12 rfl hl (by decide) rfl (fun ls hl => ?_)
    refine lv_iconst (v := 1) hx hb dL_logKind_13 (by decide) ?_
    exact h_iret hx hb hr hlk hI (Nat.le_of_ble_eq_true rfl) (Nat.le_of_ble_eq_true rfl) dL_logKind_14
set_option maxRecDepth 100000 in
theorem h_logDetail (l : Launch) (w : WD) (hsf : l.stackTraces = false) (sz o : Nat) (cL : ClassId) (x : Int64) (a1 : Int32) (M : Mem) (r : Nat ⊕ Int32) (hf : f_X11_logDetail a1 M = some r) (k : Int32) (y1 : Int64) (hres : hRes [(4, 1)] (fun v => v.toInt64) x r k y1) : hMet l yL_logDetail cL_logDetail 4 [(0, 9, 12, 58)] { frames := 10, cells := 1, slots := 6, locals := 182 } w sz o cL x M [.ref (w.1 12 16), .int a1, .ref o] k y1 M 1 6 := by
  refine h_of (by decide) (Nat.le_of_ble_eq_true rfl) ?_
  intro p e s m args below meth c hx hb hr hml hxt hown hlk hI ls hl
  have hl : lv_has ls 4 [(0, .ref (w.1 12 16)), (1, .int a1), (2, .ref o)] := hl
  refine lv_aload_n hx hb dL_logDetail_0 rfl (lv_at hl 2 rfl) ?_
  refine lv_iconst (v := 0) hx hb dL_logDetail_1 (by decide) ?_
  refine lv_aload_n hx hb dL_logDetail_2 rfl (lv_at hl 0 rfl) ?_
  refine lv_iload_n hx hb dL_logDetail_3 rfl (lv_at hl 1 rfl) ?_
  refine h_call (As := [.int a1]) (rest := [.int 0, .ref o]) hx hb hml hown hI (c_X11_logDetail l w hsf s.heap.size a1 M r hf) (kb_X11_logDetail hI.1.T (q1158 hI.1.T) (Nat.le_of_ble_eq_true rfl) (Nat.le_of_ble_eq_true rfl)) (q1159 hI.1.T) (q1160 hI.1.T) (m_recv hI.1 (mokX (by decide) (by decide)) rfl rfl) rfl hl.1 (Nat.le_of_ble_eq_true rfl) dL_logDetail_4 ⟨(Nat.le_of_ble_eq_true rfl), (Nat.le_of_ble_eq_true rfl)⟩ (fun v hv H locs hI => ?_) (fun n hn ce q H locs hI hc1 hc2 hc3 => ?_)
  · obtain ⟨v9, rfl, rfl⟩ : ∃ v9, r = .inr v9 ∧ v = some (.int v9) := by
      rcases r with n9 | v9
      · cases hv
      · cases hv; exact ⟨v9, rfl, rfl⟩
    obtain ⟨rfl, rfl⟩ := hres
    refine lv_i2l (v := v9.toInt64) hx hb dL_logDetail_7 rfl ?_
    refine h_last hx hb hI dL_logDetail_8 (fun H locs hI => ?_)
    refine lv_goto (tgt := 15) hx hb dL_logDetail_9 (by decide) ?_
    refine lv_iconst (v := 0) hx hb dL_logDetail_15 (by decide) ?_
    exact h_iret hx hb hr hlk hI (Nat.le_of_ble_eq_true rfl) (Nat.le_of_ble_eq_true rfl) dL_logDetail_16
  · obtain rfl : r = .inl n := by
      rcases r with n9 | v9
      · cases hn; rfl
      · cases hn
    obtain ⟨rfl, hk⟩ := hres
    simp only [List.mem_cons, List.not_mem_nil, or_false, Prod.mk.injEq] at hk
    obtain ⟨rfl, rfl⟩ := hk
    refine vx_catch hown [] ⟨0, 9, 12, 58⟩ [] hxt (fun z hz => nomatch hz) (by decide) (by decide) (q926 hI.1.T) (q937 hI.1.T) hc1 hc2 hc3 ?_
    refine lv_astore_n hx hb dL_logDetail_12 rfl hl (by decide) rfl (fun ls hl => ?_)
    refine lv_iconst (v := 1) hx hb dL_logDetail_13 (by decide) ?_
    exact h_iret hx hb hr hlk hI (Nat.le_of_ble_eq_true rfl) (Nat.le_of_ble_eq_true rfl) dL_logDetail_14
set_option maxRecDepth 100000 in
theorem h_refusalReason (l : Launch) (w : WD) (hsf : l.stackTraces = false) (sz o : Nat) (cL : ClassId) (x : Int64) (M : Mem) (r : Nat ⊕ Int32) (hf : f_X11_refusalReason M = some r) (k : Int32) (y1 : Int64) (hres : hRes [(4, 1)] (fun v => v.toInt64) x r k y1) : hMet l yL_refusalReason cL_refusalReason 3 [(0, 8, 11, 58)] { frames := 10, cells := 1, slots := 6, locals := 180 } w sz o cL x M [.ref (w.1 12 16), .ref o] k y1 M 1 6 := by
  refine h_of (by decide) (Nat.le_of_ble_eq_true rfl) ?_
  intro p e s m args below meth c hx hb hr hml hxt hown hlk hI ls hl
  have hl : lv_has ls 3 [(0, .ref (w.1 12 16)), (1, .ref o)] := hl
  refine lv_aload_n hx hb dL_refusalReason_0 rfl (lv_at hl 1 rfl) ?_
  refine lv_iconst (v := 0) hx hb dL_refusalReason_1 (by decide) ?_
  refine lv_aload_n hx hb dL_refusalReason_2 rfl (lv_at hl 0 rfl) ?_
  refine h_call (As := []) (rest := [.int 0, .ref o]) hx hb hml hown hI (c_X11_refusalReason l w hsf s.heap.size M r hf) (kb_X11_refusalReason hI.1.T (q1189 hI.1.T) (Nat.le_of_ble_eq_true rfl) (Nat.le_of_ble_eq_true rfl)) (q1190 hI.1.T) (q1191 hI.1.T) (m_recv hI.1 (mokX (by decide) (by decide)) rfl rfl) rfl hl.1 (Nat.le_of_ble_eq_true rfl) dL_refusalReason_3 ⟨(Nat.le_of_ble_eq_true rfl), (Nat.le_of_ble_eq_true rfl)⟩ (fun v hv H locs hI => ?_) (fun n hn ce q H locs hI hc1 hc2 hc3 => ?_)
  · obtain ⟨v9, rfl, rfl⟩ : ∃ v9, r = .inr v9 ∧ v = some (.int v9) := by
      rcases r with n9 | v9
      · cases hv
      · cases hv; exact ⟨v9, rfl, rfl⟩
    obtain ⟨rfl, rfl⟩ := hres
    refine lv_i2l (v := v9.toInt64) hx hb dL_refusalReason_6 rfl ?_
    refine h_last hx hb hI dL_refusalReason_7 (fun H locs hI => ?_)
    refine lv_goto (tgt := 14) hx hb dL_refusalReason_8 (by decide) ?_
    refine lv_iconst (v := 0) hx hb dL_refusalReason_14 (by decide) ?_
    exact h_iret hx hb hr hlk hI (Nat.le_of_ble_eq_true rfl) (Nat.le_of_ble_eq_true rfl) dL_refusalReason_15
  · obtain rfl : r = .inl n := by
      rcases r with n9 | v9
      · cases hn; rfl
      · cases hn
    obtain ⟨rfl, hk⟩ := hres
    simp only [List.mem_cons, List.not_mem_nil, or_false, Prod.mk.injEq] at hk
    obtain ⟨rfl, rfl⟩ := hk
    refine vx_catch hown [] ⟨0, 8, 11, 58⟩ [] hxt (fun z hz => nomatch hz) (by decide) (by decide) (q926 hI.1.T) (q937 hI.1.T) hc1 hc2 hc3 ?_
    refine lv_astore_n hx hb dL_refusalReason_11 rfl hl (by decide) rfl (fun ls hl => ?_)
    refine lv_iconst (v := 1) hx hb dL_refusalReason_12 (by decide) ?_
    exact h_iret hx hb hr hlk hI (Nat.le_of_ble_eq_true rfl) (Nat.le_of_ble_eq_true rfl) dL_refusalReason_13
set_option maxRecDepth 100000 in
theorem h_refusalDetail (l : Launch) (w : WD) (hsf : l.stackTraces = false) (sz o : Nat) (cL : ClassId) (x : Int64) (M : Mem) (r : Nat ⊕ Int32) (hf : f_X11_refusalDetail M = some r) (k : Int32) (y1 : Int64) (hres : hRes [(4, 1)] (fun v => v.toInt64) x r k y1) : hMet l yL_refusalDetail cL_refusalDetail 3 [(0, 8, 11, 58)] { frames := 10, cells := 1, slots := 6, locals := 180 } w sz o cL x M [.ref (w.1 12 16), .ref o] k y1 M 1 6 := by
  refine h_of (by decide) (Nat.le_of_ble_eq_true rfl) ?_
  intro p e s m args below meth c hx hb hr hml hxt hown hlk hI ls hl
  have hl : lv_has ls 3 [(0, .ref (w.1 12 16)), (1, .ref o)] := hl
  refine lv_aload_n hx hb dL_refusalDetail_0 rfl (lv_at hl 1 rfl) ?_
  refine lv_iconst (v := 0) hx hb dL_refusalDetail_1 (by decide) ?_
  refine lv_aload_n hx hb dL_refusalDetail_2 rfl (lv_at hl 0 rfl) ?_
  refine h_call (As := []) (rest := [.int 0, .ref o]) hx hb hml hown hI (c_X11_refusalDetail l w hsf s.heap.size M r hf) (kb_X11_refusalDetail hI.1.T (q1201 hI.1.T) (Nat.le_of_ble_eq_true rfl) (Nat.le_of_ble_eq_true rfl)) (q1202 hI.1.T) (q1203 hI.1.T) (m_recv hI.1 (mokX (by decide) (by decide)) rfl rfl) rfl hl.1 (Nat.le_of_ble_eq_true rfl) dL_refusalDetail_3 ⟨(Nat.le_of_ble_eq_true rfl), (Nat.le_of_ble_eq_true rfl)⟩ (fun v hv H locs hI => ?_) (fun n hn ce q H locs hI hc1 hc2 hc3 => ?_)
  · obtain ⟨v9, rfl, rfl⟩ : ∃ v9, r = .inr v9 ∧ v = some (.int v9) := by
      rcases r with n9 | v9
      · cases hv
      · cases hv; exact ⟨v9, rfl, rfl⟩
    obtain ⟨rfl, rfl⟩ := hres
    refine lv_i2l (v := v9.toInt64) hx hb dL_refusalDetail_6 rfl ?_
    refine h_last hx hb hI dL_refusalDetail_7 (fun H locs hI => ?_)
    refine lv_goto (tgt := 14) hx hb dL_refusalDetail_8 (by decide) ?_
    refine lv_iconst (v := 0) hx hb dL_refusalDetail_14 (by decide) ?_
    exact h_iret hx hb hr hlk hI (Nat.le_of_ble_eq_true rfl) (Nat.le_of_ble_eq_true rfl) dL_refusalDetail_15
  · obtain rfl : r = .inl n := by
      rcases r with n9 | v9
      · cases hn; rfl
      · cases hn
    obtain ⟨rfl, hk⟩ := hres
    simp only [List.mem_cons, List.not_mem_nil, or_false, Prod.mk.injEq] at hk
    obtain ⟨rfl, rfl⟩ := hk
    refine vx_catch hown [] ⟨0, 8, 11, 58⟩ [] hxt (fun z hz => nomatch hz) (by decide) (by decide) (q926 hI.1.T) (q937 hI.1.T) hc1 hc2 hc3 ?_
    refine lv_astore_n hx hb dL_refusalDetail_11 rfl hl (by decide) rfl (fun ls hl => ?_)
    refine lv_iconst (v := 1) hx hb dL_refusalDetail_12 (by decide) ?_
    exact h_iret hx hb hr hlk hI (Nat.le_of_ble_eq_true rfl) (Nat.le_of_ble_eq_true rfl) dL_refusalDetail_13
set_option maxRecDepth 100000 in
theorem h_refusalCause (l : Launch) (w : WD) (hsf : l.stackTraces = false) (sz o : Nat) (cL : ClassId) (x : Int64) (M : Mem) (r : Nat ⊕ Int32) (hf : f_X11_refusalCause M = some r) (k : Int32) (y1 : Int64) (hres : hRes [(4, 1)] (fun v => v.toInt64) x r k y1) : hMet l yL_refusalCause cL_refusalCause 3 [(0, 8, 11, 58)] { frames := 9, cells := 1, slots := 6, locals := 160 } w sz o cL x M [.ref (w.1 12 16), .ref o] k y1 M 1 6 := by
  refine h_of (by decide) (Nat.le_of_ble_eq_true rfl) ?_
  intro p e s m args below meth c hx hb hr hml hxt hown hlk hI ls hl
  have hl : lv_has ls 3 [(0, .ref (w.1 12 16)), (1, .ref o)] := hl
  refine lv_aload_n hx hb dL_refusalCause_0 rfl (lv_at hl 1 rfl) ?_
  refine lv_iconst (v := 0) hx hb dL_refusalCause_1 (by decide) ?_
  refine lv_aload_n hx hb dL_refusalCause_2 rfl (lv_at hl 0 rfl) ?_
  refine h_call (As := []) (rest := [.int 0, .ref o]) hx hb hml hown hI (c_X11_refusalCause l w hsf s.heap.size M r hf) (kb_X11_refusalCause hI.1.T (q1208 hI.1.T) (Nat.le_of_ble_eq_true rfl) (Nat.le_of_ble_eq_true rfl)) (q1209 hI.1.T) (q1210 hI.1.T) (m_recv hI.1 (mokX (by decide) (by decide)) rfl rfl) rfl hl.1 (Nat.le_of_ble_eq_true rfl) dL_refusalCause_3 ⟨(Nat.le_of_ble_eq_true rfl), (Nat.le_of_ble_eq_true rfl)⟩ (fun v hv H locs hI => ?_) (fun n hn ce q H locs hI hc1 hc2 hc3 => ?_)
  · obtain ⟨v9, rfl, rfl⟩ : ∃ v9, r = .inr v9 ∧ v = some (.int v9) := by
      rcases r with n9 | v9
      · cases hv
      · cases hv; exact ⟨v9, rfl, rfl⟩
    obtain ⟨rfl, rfl⟩ := hres
    refine lv_i2l (v := v9.toInt64) hx hb dL_refusalCause_6 rfl ?_
    refine h_last hx hb hI dL_refusalCause_7 (fun H locs hI => ?_)
    refine lv_goto (tgt := 14) hx hb dL_refusalCause_8 (by decide) ?_
    refine lv_iconst (v := 0) hx hb dL_refusalCause_14 (by decide) ?_
    exact h_iret hx hb hr hlk hI (Nat.le_of_ble_eq_true rfl) (Nat.le_of_ble_eq_true rfl) dL_refusalCause_15
  · obtain rfl : r = .inl n := by
      rcases r with n9 | v9
      · cases hn; rfl
      · cases hn
    obtain ⟨rfl, hk⟩ := hres
    simp only [List.mem_cons, List.not_mem_nil, or_false, Prod.mk.injEq] at hk
    obtain ⟨rfl, rfl⟩ := hk
    refine vx_catch hown [] ⟨0, 8, 11, 58⟩ [] hxt (fun z hz => nomatch hz) (by decide) (by decide) (q926 hI.1.T) (q937 hI.1.T) hc1 hc2 hc3 ?_
    refine lv_astore_n hx hb dL_refusalCause_11 rfl hl (by decide) rfl (fun ls hl => ?_)
    refine lv_iconst (v := 1) hx hb dL_refusalCause_12 (by decide) ?_
    exact h_iret hx hb hr hlk hI (Nat.le_of_ble_eq_true rfl) (Nat.le_of_ble_eq_true rfl) dL_refusalCause_13
set_option maxRecDepth 100000 in
theorem h_feed (l : Launch) (w : WD) (hsf : l.stackTraces = false) (sz o : Nat) (cL : ClassId) (x : Int64) (a1 : Int32) (M : Mem) (r : Nat ⊕ Int32) (M9 : Mem) (hf : f_X11_feed a1 M = some (r, M9)) (k : Int32) (y1 : Int64) (hres : hRes [(5, 1)] (fun v => v.toInt64) x r k y1) : hMet l yL_feed cL_feed 4 [(0, 9, 12, 146)] { frames := 9, cells := 1, slots := 6, locals := 161 } w sz o cL x M [.ref (w.1 12 16), .int a1, .ref o] k y1 M9 1 6 := by
  refine h_of (by decide) (Nat.le_of_ble_eq_true rfl) ?_
  intro p e s m args below meth c hx hb hr hml hxt hown hlk hI ls hl
  have hl : lv_has ls 4 [(0, .ref (w.1 12 16)), (1, .int a1), (2, .ref o)] := hl
  refine lv_aload_n hx hb dL_feed_0 rfl (lv_at hl 2 rfl) ?_
  refine lv_iconst (v := 0) hx hb dL_feed_1 (by decide) ?_
  refine lv_aload_n hx hb dL_feed_2 rfl (lv_at hl 0 rfl) ?_
  refine lv_iload_n hx hb dL_feed_3 rfl (lv_at hl 1 rfl) ?_
  refine h_call (As := [.int a1]) (rest := [.int 0, .ref o]) hx hb hml hown hI (c_X11_feed l w hsf s.heap.size a1 M r M9 hf) (kb_X11_feed hI.1.T (q1217 hI.1.T) (Nat.le_of_ble_eq_true rfl) (Nat.le_of_ble_eq_true rfl)) (q1218 hI.1.T) (q1219 hI.1.T) (m_recv hI.1 (mokX (by decide) (by decide)) rfl rfl) rfl hl.1 (Nat.le_of_ble_eq_true rfl) dL_feed_4 ⟨(Nat.le_of_ble_eq_true rfl), (Nat.le_of_ble_eq_true rfl)⟩ (fun v hv H locs hI => ?_) (fun n hn ce q H locs hI hc1 hc2 hc3 => ?_)
  · obtain ⟨v9, rfl, rfl⟩ : ∃ v9, r = .inr v9 ∧ v = some (.int v9) := by
      rcases r with n9 | v9
      · cases hv
      · cases hv; exact ⟨v9, rfl, rfl⟩
    obtain ⟨rfl, rfl⟩ := hres
    refine lv_i2l (v := v9.toInt64) hx hb dL_feed_7 rfl ?_
    refine h_last hx hb hI dL_feed_8 (fun H locs hI => ?_)
    refine lv_goto (tgt := 15) hx hb dL_feed_9 (by decide) ?_
    refine lv_iconst (v := 0) hx hb dL_feed_15 (by decide) ?_
    exact h_iret hx hb hr hlk hI (Nat.le_of_ble_eq_true rfl) (Nat.le_of_ble_eq_true rfl) dL_feed_16
  · obtain rfl : r = .inl n := by
      rcases r with n9 | v9
      · cases hn; rfl
      · cases hn
    obtain ⟨rfl, hk⟩ := hres
    simp only [List.mem_cons, List.not_mem_nil, or_false, Prod.mk.injEq] at hk
    obtain ⟨rfl, rfl⟩ := hk
    refine vx_catch hown [] ⟨0, 9, 12, 146⟩ [] hxt (fun z hz => nomatch hz) (by decide) (by decide) (q1216 hI.1.T) (q1223 hI.1.T) hc1 hc2 hc3 ?_
    refine lv_astore_n hx hb dL_feed_12 rfl hl (by decide) rfl (fun ls hl => ?_)
    refine lv_iconst (v := 1) hx hb dL_feed_13 (by decide) ?_
    exact h_iret hx hb hr hlk hI (Nat.le_of_ble_eq_true rfl) (Nat.le_of_ble_eq_true rfl) dL_feed_14
set_option maxRecDepth 100000 in
theorem h_runCommands (l : Launch) (w : WD) (hsf : l.stackTraces = false) (sz o : Nat) (cL : ClassId) (x : Int64) (M : Mem) (r : Nat ⊕ Int32) (M9 : Mem) (hf : f_X11_runCommands M = some (r, M9)) (k : Int32) (y1 : Int64) (hres : hRes [(2, 1), (3, 2)] (fun v => v.toInt64) x r k y1) : hMet l yL_runCommands cL_runCommands 3 [(0, 8, 11, 19), (0, 8, 14, 13)] { frames := 10, cells := 1, slots := 6, locals := 313 } w sz o cL x M [.ref (w.1 12 16), .ref o] k y1 M9 1 6 := by
  refine h_of (by decide) (Nat.le_of_ble_eq_true rfl) ?_
  intro p e s m args below meth c hx hb hr hml hxt hown hlk hI ls hl
  have hl : lv_has ls 3 [(0, .ref (w.1 12 16)), (1, .ref o)] := hl
  refine lv_aload_n hx hb dL_runCommands_0 rfl (lv_at hl 1 rfl) ?_
  refine lv_iconst (v := 0) hx hb dL_runCommands_1 (by decide) ?_
  refine lv_aload_n hx hb dL_runCommands_2 rfl (lv_at hl 0 rfl) ?_
  refine h_call (As := []) (rest := [.int 0, .ref o]) hx hb hml hown hI (c_X11_runCommands l w hsf s.heap.size M r M9 hf) (kb_X11_runCommands hI.1.T (q1244 hI.1.T) (Nat.le_of_ble_eq_true rfl) (Nat.le_of_ble_eq_true rfl)) (q1245 hI.1.T) (q1246 hI.1.T) (m_recv hI.1 (mokX (by decide) (by decide)) rfl rfl) rfl hl.1 (Nat.le_of_ble_eq_true rfl) dL_runCommands_3 ⟨(Nat.le_of_ble_eq_true rfl), (Nat.le_of_ble_eq_true rfl)⟩ (fun v hv H locs hI => ?_) (fun n hn ce q H locs hI hc1 hc2 hc3 => ?_)
  · obtain ⟨v9, rfl, rfl⟩ : ∃ v9, r = .inr v9 ∧ v = some (.int v9) := by
      rcases r with n9 | v9
      · cases hv
      · cases hv; exact ⟨v9, rfl, rfl⟩
    obtain ⟨rfl, rfl⟩ := hres
    refine lv_i2l (v := v9.toInt64) hx hb dL_runCommands_6 rfl ?_
    refine h_last hx hb hI dL_runCommands_7 (fun H locs hI => ?_)
    refine lv_goto (tgt := 17) hx hb dL_runCommands_8 (by decide) ?_
    refine lv_iconst (v := 0) hx hb dL_runCommands_17 (by decide) ?_
    exact h_iret hx hb hr hlk hI (Nat.le_of_ble_eq_true rfl) (Nat.le_of_ble_eq_true rfl) dL_runCommands_18
  · obtain rfl : r = .inl n := by
      rcases r with n9 | v9
      · cases hn; rfl
      · cases hn
    obtain ⟨rfl, hk⟩ := hres
    simp only [List.mem_cons, List.not_mem_nil, or_false, Prod.mk.injEq] at hk
    rcases hk with ⟨rfl, rfl⟩ | ⟨rfl, rfl⟩
    · refine vx_catch hown [] ⟨0, 8, 11, 19⟩ [⟨0, 8, 14, 13⟩] hxt (fun z hz => nomatch hz) (by decide) (by decide) (q713 hI.1.T) (q663 hI.1.T) hc1 hc2 hc3 ?_
      refine lv_astore_n hx hb dL_runCommands_11 rfl hl (by decide) rfl (fun ls hl => ?_)
      refine lv_iconst (v := 1) hx hb dL_runCommands_12 (by decide) ?_
      exact h_iret hx hb hr hlk hI (Nat.le_of_ble_eq_true rfl) (Nat.le_of_ble_eq_true rfl) dL_runCommands_13
    · refine vx_catch hown [⟨0, 8, 11, 19⟩] ⟨0, 8, 14, 13⟩ [] hxt (fun z hz => by rcases List.mem_cons.mp hz with rfl | hz; exact Or.inr ⟨by decide, _, (q713 hI.1.T), hI.1.nc (i := 3) (j := 2) (by decide) (by decide) (by decide) (by decide) (by decide)⟩; exact nomatch hz) (by decide) (by decide) (q562 hI.1.T) (q691 hI.1.T) hc1 hc2 hc3 ?_
      refine lv_astore_n hx hb dL_runCommands_14 rfl hl (by decide) rfl (fun ls hl => ?_)
      refine lv_iconst (v := 2) hx hb dL_runCommands_15 (by decide) ?_
      exact h_iret hx hb hr hlk hI (Nat.le_of_ble_eq_true rfl) (Nat.le_of_ble_eq_true rfl) dL_runCommands_16
set_option maxRecDepth 100000 in
theorem h_errorPosition (l : Launch) (w : WD) (hsf : l.stackTraces = false) (sz o : Nat) (cL : ClassId) (x : Int64) (M : Mem) (r : Nat ⊕ Int32) (hf : f_X11_errorPosition M = some r) (k : Int32) (y1 : Int64) (hres : hRes [(4, 1)] (fun v => v.toInt64) x r k y1) : hMet l yL_errorPosition cL_errorPosition 3 [(0, 8, 11, 58)] { frames := 9, cells := 1, slots := 6, locals := 160 } w sz o cL x M [.ref (w.1 12 16), .ref o] k y1 M 1 6 := by
  refine h_of (by decide) (Nat.le_of_ble_eq_true rfl) ?_
  intro p e s m args below meth c hx hb hr hml hxt hown hlk hI ls hl
  have hl : lv_has ls 3 [(0, .ref (w.1 12 16)), (1, .ref o)] := hl
  refine lv_aload_n hx hb dL_errorPosition_0 rfl (lv_at hl 1 rfl) ?_
  refine lv_iconst (v := 0) hx hb dL_errorPosition_1 (by decide) ?_
  refine lv_aload_n hx hb dL_errorPosition_2 rfl (lv_at hl 0 rfl) ?_
  refine h_call (As := []) (rest := [.int 0, .ref o]) hx hb hml hown hI (c_X11_errorPosition l w hsf s.heap.size M r hf) (kb_X11_errorPosition hI.1.T (q1383 hI.1.T) (Nat.le_of_ble_eq_true rfl) (Nat.le_of_ble_eq_true rfl)) (q1384 hI.1.T) (q1385 hI.1.T) (m_recv hI.1 (mokX (by decide) (by decide)) rfl rfl) rfl hl.1 (Nat.le_of_ble_eq_true rfl) dL_errorPosition_3 ⟨(Nat.le_of_ble_eq_true rfl), (Nat.le_of_ble_eq_true rfl)⟩ (fun v hv H locs hI => ?_) (fun n hn ce q H locs hI hc1 hc2 hc3 => ?_)
  · obtain ⟨v9, rfl, rfl⟩ : ∃ v9, r = .inr v9 ∧ v = some (.int v9) := by
      rcases r with n9 | v9
      · cases hv
      · cases hv; exact ⟨v9, rfl, rfl⟩
    obtain ⟨rfl, rfl⟩ := hres
    refine lv_i2l (v := v9.toInt64) hx hb dL_errorPosition_6 rfl ?_
    refine h_last hx hb hI dL_errorPosition_7 (fun H locs hI => ?_)
    refine lv_goto (tgt := 14) hx hb dL_errorPosition_8 (by decide) ?_
    refine lv_iconst (v := 0) hx hb dL_errorPosition_14 (by decide) ?_
    exact h_iret hx hb hr hlk hI (Nat.le_of_ble_eq_true rfl) (Nat.le_of_ble_eq_true rfl) dL_errorPosition_15
  · obtain rfl : r = .inl n := by
      rcases r with n9 | v9
      · cases hn; rfl
      · cases hn
    obtain ⟨rfl, hk⟩ := hres
    simp only [List.mem_cons, List.not_mem_nil, or_false, Prod.mk.injEq] at hk
    obtain ⟨rfl, rfl⟩ := hk
    refine vx_catch hown [] ⟨0, 8, 11, 58⟩ [] hxt (fun z hz => nomatch hz) (by decide) (by decide) (q926 hI.1.T) (q937 hI.1.T) hc1 hc2 hc3 ?_
    refine lv_astore_n hx hb dL_errorPosition_11 rfl hl (by decide) rfl (fun ls hl => ?_)
    refine lv_iconst (v := 1) hx hb dL_errorPosition_12 (by decide) ?_
    exact h_iret hx hb hr hlk hI (Nat.le_of_ble_eq_true rfl) (Nat.le_of_ble_eq_true rfl) dL_errorPosition_13
set_option maxRecDepth 100000 in
theorem h_outputChar (l : Launch) (w : WD) (hsf : l.stackTraces = false) (sz o : Nat) (cL : ClassId) (x : Int64) (a1 : Int32) (M : Mem) (r : Nat ⊕ Int32) (hf : f_X11_outputChar a1 M = some r) (k : Int32) (y1 : Int64) (hres : hRes [(1, 1)] (fun v => v.toInt64) x r k y1) : hMet l yL_outputChar cL_outputChar 4 [(0, 9, 12, 25)] { frames := 9, cells := 1, slots := 6, locals := 161 } w sz o cL x M [.ref (w.1 12 16), .int a1, .ref o] k y1 M 1 6 := by
  refine h_of (by decide) (Nat.le_of_ble_eq_true rfl) ?_
  intro p e s m args below meth c hx hb hr hml hxt hown hlk hI ls hl
  have hl : lv_has ls 4 [(0, .ref (w.1 12 16)), (1, .int a1), (2, .ref o)] := hl
  refine lv_aload_n hx hb dL_outputChar_0 rfl (lv_at hl 2 rfl) ?_
  refine lv_iconst (v := 0) hx hb dL_outputChar_1 (by decide) ?_
  refine lv_aload_n hx hb dL_outputChar_2 rfl (lv_at hl 0 rfl) ?_
  refine lv_iload_n hx hb dL_outputChar_3 rfl (lv_at hl 1 rfl) ?_
  refine h_call (As := [.int a1]) (rest := [.int 0, .ref o]) hx hb hml hown hI (c_X11_outputChar l w hsf s.heap.size a1 M r hf) (kb_X11_outputChar hI.1.T (q1391 hI.1.T) (Nat.le_of_ble_eq_true rfl) (Nat.le_of_ble_eq_true rfl)) (q1392 hI.1.T) (q1393 hI.1.T) (m_recv hI.1 (mokX (by decide) (by decide)) rfl rfl) rfl hl.1 (Nat.le_of_ble_eq_true rfl) dL_outputChar_4 ⟨(Nat.le_of_ble_eq_true rfl), (Nat.le_of_ble_eq_true rfl)⟩ (fun v hv H locs hI => ?_) (fun n hn ce q H locs hI hc1 hc2 hc3 => ?_)
  · obtain ⟨v9, rfl, rfl⟩ : ∃ v9, r = .inr v9 ∧ v = some (.int v9) := by
      rcases r with n9 | v9
      · cases hv
      · cases hv; exact ⟨v9, rfl, rfl⟩
    obtain ⟨rfl, rfl⟩ := hres
    refine lv_i2l (v := v9.toInt64) hx hb dL_outputChar_7 rfl ?_
    refine h_last hx hb hI dL_outputChar_8 (fun H locs hI => ?_)
    refine lv_goto (tgt := 15) hx hb dL_outputChar_9 (by decide) ?_
    refine lv_iconst (v := 0) hx hb dL_outputChar_15 (by decide) ?_
    exact h_iret hx hb hr hlk hI (Nat.le_of_ble_eq_true rfl) (Nat.le_of_ble_eq_true rfl) dL_outputChar_16
  · obtain rfl : r = .inl n := by
      rcases r with n9 | v9
      · cases hn; rfl
      · cases hn
    obtain ⟨rfl, hk⟩ := hres
    simp only [List.mem_cons, List.not_mem_nil, or_false, Prod.mk.injEq] at hk
    obtain ⟨rfl, rfl⟩ := hk
    refine vx_catch hown [] ⟨0, 9, 12, 25⟩ [] hxt (fun z hz => nomatch hz) (by decide) (by decide) (q736 hI.1.T) (q591 hI.1.T) hc1 hc2 hc3 ?_
    refine lv_astore_n hx hb dL_outputChar_12 rfl hl (by decide) rfl (fun ls hl => ?_)
    refine lv_iconst (v := 1) hx hb dL_outputChar_13 (by decide) ?_
    exact h_iret hx hb hr hlk hI (Nat.le_of_ble_eq_true rfl) (Nat.le_of_ble_eq_true rfl) dL_outputChar_14
set_option maxRecDepth 100000 in
theorem h_undo (l : Launch) (w : WD) (hsf : l.stackTraces = false) (sz o : Nat) (cL : ClassId) (x : Int64) (M : Mem) (r : Nat ⊕ Int32) (M9 : Mem) (hf : f_X11_undo M = some (r, M9)) (k : Int32) (y1 : Int64) (hres : hRes [(5, 1)] (fun v => v.toInt64) x r k y1) : hMet l yL_undo cL_undo 3 [(0, 8, 11, 146)] { frames := 9, cells := 1, slots := 6, locals := 160 } w sz o cL x M [.ref (w.1 12 16), .ref o] k y1 M9 1 6 := by
  refine h_of (by decide) (Nat.le_of_ble_eq_true rfl) ?_
  intro p e s m args below meth c hx hb hr hml hxt hown hlk hI ls hl
  have hl : lv_has ls 3 [(0, .ref (w.1 12 16)), (1, .ref o)] := hl
  refine lv_aload_n hx hb dL_undo_0 rfl (lv_at hl 1 rfl) ?_
  refine lv_iconst (v := 0) hx hb dL_undo_1 (by decide) ?_
  refine lv_aload_n hx hb dL_undo_2 rfl (lv_at hl 0 rfl) ?_
  refine h_call (As := []) (rest := [.int 0, .ref o]) hx hb hml hown hI (c_X11_undo l w hsf s.heap.size M r M9 hf) (kb_X11_undo hI.1.T (q1399 hI.1.T) (Nat.le_of_ble_eq_true rfl) (Nat.le_of_ble_eq_true rfl)) (q1400 hI.1.T) (q1401 hI.1.T) (m_recv hI.1 (mokX (by decide) (by decide)) rfl rfl) rfl hl.1 (Nat.le_of_ble_eq_true rfl) dL_undo_3 ⟨(Nat.le_of_ble_eq_true rfl), (Nat.le_of_ble_eq_true rfl)⟩ (fun v hv H locs hI => ?_) (fun n hn ce q H locs hI hc1 hc2 hc3 => ?_)
  · obtain ⟨v9, rfl, rfl⟩ : ∃ v9, r = .inr v9 ∧ v = some (.int v9) := by
      rcases r with n9 | v9
      · cases hv
      · cases hv; exact ⟨v9, rfl, rfl⟩
    obtain ⟨rfl, rfl⟩ := hres
    refine lv_i2l (v := v9.toInt64) hx hb dL_undo_6 rfl ?_
    refine h_last hx hb hI dL_undo_7 (fun H locs hI => ?_)
    refine lv_goto (tgt := 14) hx hb dL_undo_8 (by decide) ?_
    refine lv_iconst (v := 0) hx hb dL_undo_14 (by decide) ?_
    exact h_iret hx hb hr hlk hI (Nat.le_of_ble_eq_true rfl) (Nat.le_of_ble_eq_true rfl) dL_undo_15
  · obtain rfl : r = .inl n := by
      rcases r with n9 | v9
      · cases hn; rfl
      · cases hn
    obtain ⟨rfl, hk⟩ := hres
    simp only [List.mem_cons, List.not_mem_nil, or_false, Prod.mk.injEq] at hk
    obtain ⟨rfl, rfl⟩ := hk
    refine vx_catch hown [] ⟨0, 8, 11, 146⟩ [] hxt (fun z hz => nomatch hz) (by decide) (by decide) (q1216 hI.1.T) (q1223 hI.1.T) hc1 hc2 hc3 ?_
    refine lv_astore_n hx hb dL_undo_11 rfl hl (by decide) rfl (fun ls hl => ?_)
    refine lv_iconst (v := 1) hx hb dL_undo_12 (by decide) ?_
    exact h_iret hx hb hr hlk hI (Nat.le_of_ble_eq_true rfl) (Nat.le_of_ble_eq_true rfl) dL_undo_13
set_option maxRecDepth 100000 in
theorem h_restore (l : Launch) (w : WD) (hsf : l.stackTraces = false) (sz o : Nat) (cL : ClassId) (x : Int64) (M : Mem) (r : Nat ⊕ Int32) (M9 : Mem) (hf : f_X11_restore M = some (r, M9)) (k : Int32) (y1 : Int64) (hres : hRes [(5, 1)] (fun v => v.toInt64) x r k y1) : hMet l yL_restore cL_restore 3 [(0, 8, 11, 146)] { frames := 9, cells := 1, slots := 6, locals := 160 } w sz o cL x M [.ref (w.1 12 16), .ref o] k y1 M9 1 6 := by
  refine h_of (by decide) (Nat.le_of_ble_eq_true rfl) ?_
  intro p e s m args below meth c hx hb hr hml hxt hown hlk hI ls hl
  have hl : lv_has ls 3 [(0, .ref (w.1 12 16)), (1, .ref o)] := hl
  refine lv_aload_n hx hb dL_restore_0 rfl (lv_at hl 1 rfl) ?_
  refine lv_iconst (v := 0) hx hb dL_restore_1 (by decide) ?_
  refine lv_aload_n hx hb dL_restore_2 rfl (lv_at hl 0 rfl) ?_
  refine h_call (As := []) (rest := [.int 0, .ref o]) hx hb hml hown hI (c_X11_restore l w hsf s.heap.size M r M9 hf) (kb_X11_restore hI.1.T (q1411 hI.1.T) (Nat.le_of_ble_eq_true rfl) (Nat.le_of_ble_eq_true rfl)) (q1412 hI.1.T) (q1413 hI.1.T) (m_recv hI.1 (mokX (by decide) (by decide)) rfl rfl) rfl hl.1 (Nat.le_of_ble_eq_true rfl) dL_restore_3 ⟨(Nat.le_of_ble_eq_true rfl), (Nat.le_of_ble_eq_true rfl)⟩ (fun v hv H locs hI => ?_) (fun n hn ce q H locs hI hc1 hc2 hc3 => ?_)
  · obtain ⟨v9, rfl, rfl⟩ : ∃ v9, r = .inr v9 ∧ v = some (.int v9) := by
      rcases r with n9 | v9
      · cases hv
      · cases hv; exact ⟨v9, rfl, rfl⟩
    obtain ⟨rfl, rfl⟩ := hres
    refine lv_i2l (v := v9.toInt64) hx hb dL_restore_6 rfl ?_
    refine h_last hx hb hI dL_restore_7 (fun H locs hI => ?_)
    refine lv_goto (tgt := 14) hx hb dL_restore_8 (by decide) ?_
    refine lv_iconst (v := 0) hx hb dL_restore_14 (by decide) ?_
    exact h_iret hx hb hr hlk hI (Nat.le_of_ble_eq_true rfl) (Nat.le_of_ble_eq_true rfl) dL_restore_15
  · obtain rfl : r = .inl n := by
      rcases r with n9 | v9
      · cases hn; rfl
      · cases hn
    obtain ⟨rfl, hk⟩ := hres
    simp only [List.mem_cons, List.not_mem_nil, or_false, Prod.mk.injEq] at hk
    obtain ⟨rfl, rfl⟩ := hk
    refine vx_catch hown [] ⟨0, 8, 11, 146⟩ [] hxt (fun z hz => nomatch hz) (by decide) (by decide) (q1216 hI.1.T) (q1223 hI.1.T) hc1 hc2 hc3 ?_
    refine lv_astore_n hx hb dL_restore_11 rfl hl (by decide) rfl (fun ls hl => ?_)
    refine lv_iconst (v := 1) hx hb dL_restore_12 (by decide) ?_
    exact h_iret hx hb hr hlk hI (Nat.le_of_ble_eq_true rfl) (Nat.le_of_ble_eq_true rfl) dL_restore_13
