set_option maxRecDepth 100000 in
theorem q3 {s : State} {a : Array Value} (h : mT s) : (Jvm.Cond.initialized "ShareVault$Keys").before a s = true := h _ (tin1 (List.mem_of_getElem? (l := tables_1_1) (i := 3) rfl)) rfl a
set_option maxRecDepth 100000 in
theorem q4 {s : State} {a : Array Value} (h : mT s) : (Jvm.Cond.initialized "ShareVault$Door").before a s = true := h _ (tin1 (List.mem_of_getElem? (l := tables_1_1) (i := 4) rfl)) rfl a
set_option maxRecDepth 100000 in
theorem q5 {s : State} {a : Array Value} (h : mT s) : (Jvm.Cond.initialized "ShareVault$Building").before a s = true := h _ (tin1 (List.mem_of_getElem? (l := tables_1_1) (i := 5) rfl)) rfl a
set_option maxRecDepth 100000 in
theorem q6 {s : State} {a : Array Value} (h : mT s) : (Jvm.Cond.initialized "ShareVault$Journal").before a s = true := h _ (tin1 (List.mem_of_getElem? (l := tables_1_1) (i := 6) rfl)) rfl a
set_option maxRecDepth 100000 in
theorem q36 {s : State} {a : Array Value} (h : mT s) : (Jvm.Cond.instanceMethod ({ cls := "java/lang/Object", name := "<init>", desc := "()V" } : Jvm.MethodName)).before a s = true := h _ (tin1 (List.mem_of_getElem? (l := tables_1_1) (i := 36) rfl)) rfl a
set_option maxRecDepth 100000 in
theorem q37 {s : State} {a : Array Value} (h : mT s) : (Jvm.Cond.code ({ cls := "java/lang/Object", name := "<init>", desc := "()V" } : Jvm.MethodName) object_method_1_code (1 : Nat) (Option.none : Option Jvm.ClassFile.FieldType)).before a s = true := h _ (tin1 (List.mem_of_getElem? (l := tables_1_1) (i := 37) rfl)) rfl a
set_option maxRecDepth 100000 in
theorem q43 {s : State} {a : Array Value} (h : mT s) : (Jvm.Cond.methodLink "ShareVault$State" (3 : Nat) ({ cls := "java/lang/Object", name := "<init>", desc := "()V" } : Jvm.MethodName)).before a s = true := h _ (tin1 (List.mem_of_getElem? (l := tables_1_1) (i := 43) rfl)) rfl a
set_option maxRecDepth 100000 in
theorem q44 {s : State} {a : Array Value} (h : mT s) : (Jvm.Cond.classLink "ShareVault$State" (9 : Nat) "ShareVault$Keys").before a s = true := h _ (tin1 (List.mem_of_getElem? (l := tables_1_1) (i := 44) rfl)) rfl a
set_option maxRecDepth 100000 in
theorem q45 {s : State} {a : Array Value} (h : mT s) : (Jvm.Cond.instantiable "ShareVault$Keys" (7 : Nat)).before a s = true := h _ (tin1 (List.mem_of_getElem? (l := tables_1_1) (i := 45) rfl)) rfl a
set_option maxRecDepth 100000 in
theorem q46 {s : State} {a : Array Value} (h : mT s) : (Jvm.Cond.methodLinkNest "ShareVault$State" (11 : Nat) ({ cls := "ShareVault$Keys", name := "<init>", desc := "()V" } : Jvm.MethodName) "ShareVault").before a s = true := h _ (tin1 (List.mem_of_getElem? (l := tables_1_1) (i := 46) rfl)) rfl a
set_option maxRecDepth 100000 in
theorem q47 {s : State} {a : Array Value} (h : mT s) : (Jvm.Cond.instanceMethod ({ cls := "ShareVault$Keys", name := "<init>", desc := "()V" } : Jvm.MethodName)).before a s = true := h _ (tin1 (List.mem_of_getElem? (l := tables_1_1) (i := 47) rfl)) rfl a
set_option maxRecDepth 100000 in
theorem q49 {s : State} {a : Array Value} (h : mT s) : (Jvm.Cond.methodLink "ShareVault$Keys" (3 : Nat) ({ cls := "java/lang/Object", name := "<init>", desc := "()V" } : Jvm.MethodName)).before a s = true := h _ (tin1 (List.mem_of_getElem? (l := tables_1_1) (i := 49) rfl)) rfl a
set_option maxRecDepth 100000 in
theorem q87 {s : State} {a : Array Value} (h : mT s) : (Jvm.Cond.arrayClass Jvm.ClassFile.FieldType.int).before a s = true := h _ (tin1 (List.mem_of_getElem? (l := tables_1_1) (i := 87) rfl)) rfl a
set_option maxRecDepth 100000 in
theorem q88 {s : State} {a : Array Value} (h : mT s) : (Jvm.Cond.classLink "ShareVault$State" (18 : Nat) "ShareVault$Door").before a s = true := h _ (tin1 (List.mem_of_getElem? (l := tables_1_1) (i := 88) rfl)) rfl a
set_option maxRecDepth 100000 in
theorem q89 {s : State} {a : Array Value} (h : mT s) : (Jvm.Cond.instantiable "ShareVault$Door" (4 : Nat)).before a s = true := h _ (tin1 (List.mem_of_getElem? (l := tables_1_1) (i := 89) rfl)) rfl a
set_option maxRecDepth 100000 in
theorem q90 {s : State} {a : Array Value} (h : mT s) : (Jvm.Cond.methodLinkNest "ShareVault$State" (20 : Nat) ({ cls := "ShareVault$Door", name := "<init>", desc := "()V" } : Jvm.MethodName) "ShareVault").before a s = true := h _ (tin1 (List.mem_of_getElem? (l := tables_1_1) (i := 90) rfl)) rfl a
set_option maxRecDepth 100000 in
theorem q91 {s : State} {a : Array Value} (h : mT s) : (Jvm.Cond.instanceMethod ({ cls := "ShareVault$Door", name := "<init>", desc := "()V" } : Jvm.MethodName)).before a s = true := h _ (tin1 (List.mem_of_getElem? (l := tables_1_1) (i := 91) rfl)) rfl a
set_option maxRecDepth 100000 in
theorem q93 {s : State} {a : Array Value} (h : mT s) : (Jvm.Cond.methodLink "ShareVault$Door" (3 : Nat) ({ cls := "java/lang/Object", name := "<init>", desc := "()V" } : Jvm.MethodName)).before a s = true := h _ (tin1 (List.mem_of_getElem? (l := tables_1_1) (i := 93) rfl)) rfl a
set_option maxRecDepth 100000 in
theorem q114 {s : State} {a : Array Value} (h : mT s) : (Jvm.Cond.classLink "ShareVault$State" (25 : Nat) "ShareVault$Building").before a s = true := h _ (tin1 (List.mem_of_getElem? (l := tables_1_1) (i := 114) rfl)) rfl a
set_option maxRecDepth 100000 in
theorem q115 {s : State} {a : Array Value} (h : mT s) : (Jvm.Cond.instantiable "ShareVault$Building" (8 : Nat)).before a s = true := h _ (tin1 (List.mem_of_getElem? (l := tables_1_1) (i := 115) rfl)) rfl a
set_option maxRecDepth 100000 in
theorem q116 {s : State} {a : Array Value} (h : mT s) : (Jvm.Cond.methodLinkNest "ShareVault$State" (27 : Nat) ({ cls := "ShareVault$Building", name := "<init>", desc := "()V" } : Jvm.MethodName) "ShareVault").before a s = true := h _ (tin1 (List.mem_of_getElem? (l := tables_1_1) (i := 116) rfl)) rfl a
set_option maxRecDepth 100000 in
theorem q117 {s : State} {a : Array Value} (h : mT s) : (Jvm.Cond.instanceMethod ({ cls := "ShareVault$Building", name := "<init>", desc := "()V" } : Jvm.MethodName)).before a s = true := h _ (tin1 (List.mem_of_getElem? (l := tables_1_1) (i := 117) rfl)) rfl a
set_option maxRecDepth 100000 in
theorem q119 {s : State} {a : Array Value} (h : mT s) : (Jvm.Cond.methodLink "ShareVault$Building" (3 : Nat) ({ cls := "java/lang/Object", name := "<init>", desc := "()V" } : Jvm.MethodName)).before a s = true := h _ (tin1 (List.mem_of_getElem? (l := tables_1_1) (i := 119) rfl)) rfl a
set_option maxRecDepth 100000 in
theorem q157 {s : State} {a : Array Value} (h : mT s) : (Jvm.Cond.arrayClass Jvm.ClassFile.FieldType.boolean).before a s = true := h _ (tin1 (List.mem_of_getElem? (l := tables_1_1) (i := 157) rfl)) rfl a
set_option maxRecDepth 100000 in
theorem q158 {s : State} {a : Array Value} (h : mT s) : (Jvm.Cond.classLink "ShareVault$State" (32 : Nat) "ShareVault$Journal").before a s = true := h _ (tin1 (List.mem_of_getElem? (l := tables_1_1) (i := 158) rfl)) rfl a
set_option maxRecDepth 100000 in
theorem q159 {s : State} {a : Array Value} (h : mT s) : (Jvm.Cond.instantiable "ShareVault$Journal" (4 : Nat)).before a s = true := h _ (tin1 (List.mem_of_getElem? (l := tables_1_1) (i := 159) rfl)) rfl a
set_option maxRecDepth 100000 in
theorem q160 {s : State} {a : Array Value} (h : mT s) : (Jvm.Cond.methodLinkNest "ShareVault$State" (34 : Nat) ({ cls := "ShareVault$Journal", name := "<init>", desc := "()V" } : Jvm.MethodName) "ShareVault").before a s = true := h _ (tin1 (List.mem_of_getElem? (l := tables_1_1) (i := 160) rfl)) rfl a
set_option maxRecDepth 100000 in
theorem q161 {s : State} {a : Array Value} (h : mT s) : (Jvm.Cond.instanceMethod ({ cls := "ShareVault$Journal", name := "<init>", desc := "()V" } : Jvm.MethodName)).before a s = true := h _ (tin1 (List.mem_of_getElem? (l := tables_1_1) (i := 161) rfl)) rfl a
set_option maxRecDepth 100000 in
theorem q163 {s : State} {a : Array Value} (h : mT s) : (Jvm.Cond.methodLink "ShareVault$Journal" (3 : Nat) ({ cls := "java/lang/Object", name := "<init>", desc := "()V" } : Jvm.MethodName)).before a s = true := h _ (tin1 (List.mem_of_getElem? (l := tables_1_1) (i := 163) rfl)) rfl a
set_option maxRecDepth 100000 in
theorem q181 {s : State} {a : Array Value} (h : mT s) : (Jvm.Cond.arrayClass Jvm.ClassFile.FieldType.char).before a s = true := h _ (tin1 (List.mem_of_getElem? (l := tables_1_1) (i := 181) rfl)) rfl a
set_option maxRecDepth 100000 in
theorem q230 {s : State} {a : Array Value} (h : mT s) : (Jvm.Cond.methodLink "ShareVault$Solver" (3 : Nat) ({ cls := "java/lang/Object", name := "<init>", desc := "()V" } : Jvm.MethodName)).before a s = true := h _ (tin1 (List.mem_of_getElem? (l := tables_1_1) (i := 230) rfl)) rfl a
set_option maxRecDepth 100000 in
theorem q231 {s : State} {a : Array Value} (h : mT s) : (Jvm.Cond.classLink "ShareVault$Solver" (9 : Nat) "[[I").before a s = true := h _ (tin1 (List.mem_of_getElem? (l := tables_1_1) (i := 231) rfl)) rfl a
set_option maxRecDepth 100000 in
theorem q248 {s : State} {a : Array Value} (h : mT s) : (Jvm.Cond.methodLink "ShareVault$Commands" (3 : Nat) ({ cls := "java/lang/Object", name := "<init>", desc := "()V" } : Jvm.MethodName)).before a s = true := h _ (tin2 (List.mem_of_getElem? (l := tables_1_2) (i := 8) rfl)) rfl a
set_option maxRecDepth 100000 in
theorem q249 {s : State} {a : Array Value} (h : mT s) : (Jvm.Cond.classLink "ShareVault$Commands" (15 : Nat) "ShareVault$Word").before a s = true := h _ (tin2 (List.mem_of_getElem? (l := tables_1_2) (i := 9) rfl)) rfl a
set_option maxRecDepth 100000 in
theorem q251 {s : State} {a : Array Value} (h : mT s) : (Jvm.Cond.classLink "ShareVault$Commands" (21 : Nat) "[[I").before a s = true := h _ (tin2 (List.mem_of_getElem? (l := tables_1_2) (i := 11) rfl)) rfl a
set_option maxRecDepth 100000 in
theorem q283 {s : State} {a : Array Value} (h : mT s) : (Jvm.Cond.methodLink "ShareVault$Output" (3 : Nat) ({ cls := "java/lang/Object", name := "<init>", desc := "()V" } : Jvm.MethodName)).before a s = true := h _ (tin2 (List.mem_of_getElem? (l := tables_1_2) (i := 43) rfl)) rfl a
set_option maxRecDepth 100000 in
theorem q1425 {s : State} {a : Array Value} (h : mT s) : (Jvm.Cond.methodLink "ShareVaultModel" (1 : Nat) ({ cls := "java/lang/Object", name := "<init>", desc := "()V" } : Jvm.MethodName)).before a s = true := h _ (tin6 (List.mem_of_getElem? (l := tables_1_6) (i := 225) rfl)) rfl a
theorem g_cn {R : Room} {s : State} {args : Array Value} {y : MethodName} {bytes : ByteArray} {maxL n idx mc ms : Nat} {rm : Room} {own host : String} (hT : mT s) (hcode : Cond.code y bytes maxL none ∈ lw_tbl) (hini : Cond.initialized y.cls ∈ lw_tbl) (hlink : (Cond.methodLinkNest own idx y host).before args s = true)
    (hd : y.cls ≠ "java/lang/invoke/MethodHandle" ∧ y.cls ≠ "java/lang/invoke/VarHandle" ∧ (parseMethodDescriptor y.desc).map (fun d => d.parameters.length) = some n) (hrm : rm.cells = mc ∧ rm.slots = ms ∧ rm.frames + 1 ≤ R.frames ∧ 8 + (maxL + 11) + rm.locals ≤ R.locals) :
    va_CN R s args own idx y host bytes maxL none [Cond.code y bytes maxL none] rm mc ms n := by
  refine ⟨⟨hrm.1, hrm.2.1, hrm.2.2.1, hrm.2.2.2, fun w hw a' U hW => ?_, List.mem_cons_self⟩, hT _ hcode rfl _, hT _ hini rfl _, ⟨hd.1, hd.2.1⟩, fun sig h => ?_, hlink⟩
  · obtain rfl := List.mem_singleton.mp hw
    exact word_at hW (good_of_word rfl) (hT _ hcode rfl args)
  · have h2 := hd.2.2
    rw [h] at h2
    exact (Option.some.inj h2).symm
theorem df_X3 : ∀ j, j < 4 → defaultValue (tyX3 j) = vp_V [.int 0, .int 0, .int 0, .int 0] j := fun j hj => match j, hj with
  | 0, _ => rfl
  | 1, _ => rfl
  | 2, _ => rfl
  | 3, _ => rfl
  | _ + 4, h => absurd h (by omega)
set_option maxRecDepth 100000 in
theorem kc_X3_init : Cond.code yX3_init cX3_init 1 none ∈ lw_tbl := (tin1 (List.mem_of_getElem? (l := tables_1_1) (i := 92) rfl))
def ws_X3 (w : WD) (a z : Nat) : va_W := [(a, .inr (2, [.int 0, .int 0, .int 0, .int 0]))]
theorem ge_X3 (w : WD) (a z : Nat) (h : a ≤ z) : ∀ q ∈ ws_X3 w a z, a ≤ q.1 := by
  intro q hq
  unfold ws_X3 at hq
  simp only [List.mem_cons, List.not_mem_nil, or_false] at hq
  subst hq
  all_goals (dsimp only; omega)
set_option maxRecDepth 100000 in
theorem gc_X3 (l : Launch) (w : WD) (sz a : Nat) : gMet l yX3_init cX3_init 1 { frames := 1, cells := 0, slots := 0, locals := 13 } w sz a (.inr (2, [.int 0, .int 0, .int 0, .int 0])) (ws_X3 w a sz) 0 0 := by
  refine g_of (by decide) rfl (Nat.le_of_ble_eq_true rfl) ?_
  intro p e s m args below meth c hx hb hr hml hown hlk hin hsz hI ls hl
  subst hsz
  have hl : lv_has ls 1 [(0, .ref a)] := hl
  refine lv_aload_n hx hb dX3_init_0 rfl (lv_at hl 0 rfl) ?_
  refine W.objInit hx hb hown (q93 hI.T) (q36 hI.T) (q37 hI.T) rfl (hl.1.trans hml.symm) rfl dX3_init_1 (Nat.le_of_ble_eq_true rfl) (Nat.le_of_ble_eq_true rfl) ?_
  refine W.eq (g2 := F0 m 4 ls []) rfl ?_
  exact g_ret hx hb hr hlk hI rfl dX3_init_4
theorem df_X6 : ∀ j, j < 7 → defaultValue (tyX6 j) = vp_V [.int 0, .null, .int 0, .int 0, .null, .int 0, .null] j := fun j hj => match j, hj with
  | 0, _ => rfl
  | 1, _ => rfl
  | 2, _ => rfl
  | 3, _ => rfl
  | 4, _ => rfl
  | 5, _ => rfl
  | 6, _ => rfl
  | _ + 7, h => absurd h (by omega)
set_option maxRecDepth 100000 in
theorem kc_X6_init : Cond.code yX6_init cX6_init 1 none ∈ lw_tbl := (tin1 (List.mem_of_getElem? (l := tables_1_1) (i := 48) rfl))
def ws_X6 (w : WD) (a z : Nat) : va_W := [(a, .inr (5, [.int 0, .ref (z), .int 0, .int 0, .ref (z + 1), .int 0, .ref (z + 2)])), (z, .inl (w.2.2.1 0, 8, .inl fun _ => 0)), (z + 1, .inl (w.2.2.1 0, 3, .inl fun _ => 0)), (z + 2, .inl (w.2.2.1 0, 8, .inl fun _ => 0))]
theorem ge_X6 (w : WD) (a z : Nat) (h : a ≤ z) : ∀ q ∈ ws_X6 w a z, a ≤ q.1 := by
  intro q hq
  unfold ws_X6 at hq
  simp only [List.mem_cons, List.not_mem_nil, or_false] at hq
  rcases hq with rfl | rfl | rfl | rfl
  all_goals (dsimp only; omega)
set_option maxRecDepth 100000 in
theorem gc_X6 (l : Launch) (w : WD) (sz a : Nat) : gMet l yX6_init cX6_init 1 { frames := 1, cells := 3, slots := 19, locals := 13 } w sz a (.inr (5, [.int 0, .null, .int 0, .int 0, .null, .int 0, .null])) (ws_X6 w a sz) 3 19 := by
  refine g_of (by decide) rfl (Nat.le_of_ble_eq_true rfl) ?_
  intro p e s m args below meth c hx hb hr hml hown hlk hin hsz hI ls hl
  subst hsz
  have hl : lv_has ls 1 [(0, .ref a)] := hl
  refine lv_aload_n hx hb dX6_init_0 rfl (lv_at hl 0 rfl) ?_
  refine W.objInit hx hb hown (q49 hI.T) (q36 hI.T) (q37 hI.T) rfl (hl.1.trans hml.symm) rfl dX6_init_1 (Nat.le_of_ble_eq_true rfl) (Nat.le_of_ble_eq_true rfl) ?_
  refine W.eq (g2 := F0 m 4 ls []) rfl ?_
  refine lv_aload_n hx hb dX6_init_4 rfl (lv_at hl 0 rfl) ?_
  refine lv_bipush (v := 8) hx hb dX6_init_5 (by decide) ?_
  refine g_newa (ty := .int) (t0 := 0) (N := 8) hx hb hI rfl (q87 hI.T) rfl (fun h => h) rfl (by decide) (by decide) (by decide) (Nat.le_of_ble_eq_true rfl) (Nat.le_of_ble_eq_true rfl) dX6_init_7 (fun H hI => ?_)
  refine g_putF (T := TX6) (N := 7) (k := 1) (ty := .array (.int)) hx hb hI hown rfl (by decide) lyX6 tyX6 tyX6_ok nmX6 (q53 hI.T) hin rfl rfl rfl rfl rfl (Nat.le_of_ble_eq_true rfl) dX6_init_9 (fun H locs hI => ?_)
  refine lv_aload_n hx hb dX6_init_12 rfl (lv_at hl 0 rfl) ?_
  refine lv_iconst (v := 3) hx hb dX6_init_13 (by decide) ?_
  refine g_newa (ty := .int) (t0 := 0) (N := 3) hx hb hI rfl (q87 hI.T) rfl (fun h => h) rfl (by decide) (by decide) (by decide) (Nat.le_of_ble_eq_true rfl) (Nat.le_of_ble_eq_true rfl) dX6_init_14 (fun H hI => ?_)
  refine g_putF (T := TX6) (N := 7) (k := 4) (ty := .array (.int)) hx hb hI hown rfl (by decide) lyX6 tyX6 tyX6_ok nmX6 (q64 hI.T) hin rfl rfl rfl rfl rfl (Nat.le_of_ble_eq_true rfl) dX6_init_16 (fun H locs hI => ?_)
  refine lv_aload_n hx hb dX6_init_19 rfl (lv_at hl 0 rfl) ?_
  refine lv_bipush (v := 8) hx hb dX6_init_20 (by decide) ?_
  refine g_newa (ty := .int) (t0 := 0) (N := 8) hx hb hI rfl (q87 hI.T) rfl (fun h => h) rfl (by decide) (by decide) (by decide) (Nat.le_of_ble_eq_true rfl) (Nat.le_of_ble_eq_true rfl) dX6_init_22 (fun H hI => ?_)
  refine g_putF (T := TX6) (N := 7) (k := 6) (ty := .array (.int)) hx hb hI hown rfl (by decide) lyX6 tyX6 tyX6_ok nmX6 (q69 hI.T) hin rfl rfl rfl rfl rfl (Nat.le_of_ble_eq_true rfl) dX6_init_24 (fun H locs hI => ?_)
  exact g_ret hx hb hr hlk hI rfl dX6_init_27
theorem df_X1 : ∀ j, j < 8 → defaultValue (tyX1 j) = vp_V [.int 0, .null, .null, .int 0, .int 0, .null, .null, .null] j := fun j hj => match j, hj with
  | 0, _ => rfl
  | 1, _ => rfl
  | 2, _ => rfl
  | 3, _ => rfl
  | 4, _ => rfl
  | 5, _ => rfl
  | 6, _ => rfl
  | 7, _ => rfl
  | _ + 8, h => absurd h (by omega)
set_option maxRecDepth 100000 in
theorem kc_X1_init : Cond.code yX1_init cX1_init 1 none ∈ lw_tbl := (tin1 (List.mem_of_getElem? (l := tables_1_1) (i := 118) rfl))
def ws_X1 (w : WD) (a z : Nat) : va_W := [(a, .inr (0, [.int 0, .ref (z), .ref (z + 1), .int 0, .int 0, .ref (z + 2), .ref (z + 3), .ref (z + 4)])), (z, .inl (w.2.2.1 0, 8, .inl fun _ => 0)), (z + 1, .inl (w.2.2.1 0, 8, .inl fun _ => 0)), (z + 2, .inl (w.2.2.1 0, 3, .inl fun _ => 0)), (z + 3, .inl (w.2.2.1 1, 3, .inl fun _ => 0)), (z + 4, .inl (w.2.2.1 0, 3, .inl fun _ => 0))]
theorem ge_X1 (w : WD) (a z : Nat) (h : a ≤ z) : ∀ q ∈ ws_X1 w a z, a ≤ q.1 := by
  intro q hq
  unfold ws_X1 at hq
  simp only [List.mem_cons, List.not_mem_nil, or_false] at hq
  rcases hq with rfl | rfl | rfl | rfl | rfl | rfl
  all_goals (dsimp only; omega)
set_option maxRecDepth 100000 in
theorem gc_X1 (l : Launch) (w : WD) (sz a : Nat) : gMet l yX1_init cX1_init 1 { frames := 1, cells := 5, slots := 25, locals := 13 } w sz a (.inr (0, [.int 0, .null, .null, .int 0, .int 0, .null, .null, .null])) (ws_X1 w a sz) 5 25 := by
  refine g_of (by decide) rfl (Nat.le_of_ble_eq_true rfl) ?_
  intro p e s m args below meth c hx hb hr hml hown hlk hin hsz hI ls hl
  subst hsz
  have hl : lv_has ls 1 [(0, .ref a)] := hl
  refine lv_aload_n hx hb dX1_init_0 rfl (lv_at hl 0 rfl) ?_
  refine W.objInit hx hb hown (q119 hI.T) (q36 hI.T) (q37 hI.T) rfl (hl.1.trans hml.symm) rfl dX1_init_1 (Nat.le_of_ble_eq_true rfl) (Nat.le_of_ble_eq_true rfl) ?_
  refine W.eq (g2 := F0 m 4 ls []) rfl ?_
  refine lv_aload_n hx hb dX1_init_4 rfl (lv_at hl 0 rfl) ?_
  refine lv_bipush (v := 8) hx hb dX1_init_5 (by decide) ?_
  refine g_newa (ty := .int) (t0 := 0) (N := 8) hx hb hI rfl (q87 hI.T) rfl (fun h => h) rfl (by decide) (by decide) (by decide) (Nat.le_of_ble_eq_true rfl) (Nat.le_of_ble_eq_true rfl) dX1_init_7 (fun H hI => ?_)
  refine g_putF (T := TX1) (N := 8) (k := 1) (ty := .array (.int)) hx hb hI hown rfl (by decide) lyX1 tyX1 tyX1_ok nmX1 (q123 hI.T) hin rfl rfl rfl rfl rfl (Nat.le_of_ble_eq_true rfl) dX1_init_9 (fun H locs hI => ?_)
  refine lv_aload_n hx hb dX1_init_12 rfl (lv_at hl 0 rfl) ?_
  refine lv_bipush (v := 8) hx hb dX1_init_13 (by decide) ?_
  refine g_newa (ty := .int) (t0 := 0) (N := 8) hx hb hI rfl (q87 hI.T) rfl (fun h => h) rfl (by decide) (by decide) (by decide) (Nat.le_of_ble_eq_true rfl) (Nat.le_of_ble_eq_true rfl) dX1_init_15 (fun H hI => ?_)
  refine g_putF (T := TX1) (N := 8) (k := 2) (ty := .array (.int)) hx hb hI hown rfl (by decide) lyX1 tyX1 tyX1_ok nmX1 (q126 hI.T) hin rfl rfl rfl rfl rfl (Nat.le_of_ble_eq_true rfl) dX1_init_17 (fun H locs hI => ?_)
  refine lv_aload_n hx hb dX1_init_20 rfl (lv_at hl 0 rfl) ?_
  refine lv_iconst (v := 3) hx hb dX1_init_21 (by decide) ?_
  refine g_newa (ty := .int) (t0 := 0) (N := 3) hx hb hI rfl (q87 hI.T) rfl (fun h => h) rfl (by decide) (by decide) (by decide) (Nat.le_of_ble_eq_true rfl) (Nat.le_of_ble_eq_true rfl) dX1_init_22 (fun H hI => ?_)
  refine g_putF (T := TX1) (N := 8) (k := 5) (ty := .array (.int)) hx hb hI hown rfl (by decide) lyX1 tyX1 tyX1_ok nmX1 (q134 hI.T) hin rfl rfl rfl rfl rfl (Nat.le_of_ble_eq_true rfl) dX1_init_24 (fun H locs hI => ?_)
  refine lv_aload_n hx hb dX1_init_27 rfl (lv_at hl 0 rfl) ?_
  refine lv_iconst (v := 3) hx hb dX1_init_28 (by decide) ?_
  refine g_newa (ty := .boolean) (t0 := 1) (N := 3) hx hb hI rfl (q157 hI.T) rfl (fun h => h) rfl (by decide) (by decide) (by decide) (Nat.le_of_ble_eq_true rfl) (Nat.le_of_ble_eq_true rfl) dX1_init_29 (fun H hI => ?_)
  refine g_putF (T := TX1) (N := 8) (k := 6) (ty := .array (.boolean)) hx hb hI hown rfl (by decide) lyX1 tyX1 tyX1_ok nmX1 (q136 hI.T) hin rfl rfl rfl rfl rfl (Nat.le_of_ble_eq_true rfl) dX1_init_31 (fun H locs hI => ?_)
  refine lv_aload_n hx hb dX1_init_34 rfl (lv_at hl 0 rfl) ?_
  refine lv_iconst (v := 3) hx hb dX1_init_35 (by decide) ?_
  refine g_newa (ty := .int) (t0 := 0) (N := 3) hx hb hI rfl (q87 hI.T) rfl (fun h => h) rfl (by decide) (by decide) (by decide) (Nat.le_of_ble_eq_true rfl) (Nat.le_of_ble_eq_true rfl) dX1_init_36 (fun H hI => ?_)
  refine g_putF (T := TX1) (N := 8) (k := 7) (ty := .array (.int)) hx hb hI hown rfl (by decide) lyX1 tyX1 tyX1_ok nmX1 (q139 hI.T) hin rfl rfl rfl rfl rfl (Nat.le_of_ble_eq_true rfl) dX1_init_38 (fun H locs hI => ?_)
  exact g_ret hx hb hr hlk hI rfl dX1_init_41
theorem df_X5 : ∀ j, j < 4 → defaultValue (tyX5 j) = vp_V [.int 0, .null, .null, .null] j := fun j hj => match j, hj with
  | 0, _ => rfl
  | 1, _ => rfl
  | 2, _ => rfl
  | 3, _ => rfl
  | _ + 4, h => absurd h (by omega)
set_option maxRecDepth 100000 in
theorem kc_X5_init : Cond.code yX5_init cX5_init 1 none ∈ lw_tbl := (tin1 (List.mem_of_getElem? (l := tables_1_1) (i := 162) rfl))
def ws_X5 (w : WD) (a z : Nat) : va_W := [(a, .inr (4, [.int 0, .ref (z), .ref (z + 1), .ref (z + 2)])), (z, .inl (w.2.2.1 0, 12, .inl fun _ => 0)), (z + 1, .inl (w.2.2.1 2, 12, .inl fun _ => 0)), (z + 2, .inl (w.2.2.1 0, 12, .inl fun _ => 0))]
theorem ge_X5 (w : WD) (a z : Nat) (h : a ≤ z) : ∀ q ∈ ws_X5 w a z, a ≤ q.1 := by
  intro q hq
  unfold ws_X5 at hq
  simp only [List.mem_cons, List.not_mem_nil, or_false] at hq
  rcases hq with rfl | rfl | rfl | rfl
  all_goals (dsimp only; omega)
set_option maxRecDepth 100000 in
theorem gc_X5 (l : Launch) (w : WD) (sz a : Nat) : gMet l yX5_init cX5_init 1 { frames := 1, cells := 3, slots := 36, locals := 13 } w sz a (.inr (4, [.int 0, .null, .null, .null])) (ws_X5 w a sz) 3 36 := by
  refine g_of (by decide) rfl (Nat.le_of_ble_eq_true rfl) ?_
  intro p e s m args below meth c hx hb hr hml hown hlk hin hsz hI ls hl
  subst hsz
  have hl : lv_has ls 1 [(0, .ref a)] := hl
  refine lv_aload_n hx hb dX5_init_0 rfl (lv_at hl 0 rfl) ?_
  refine W.objInit hx hb hown (q163 hI.T) (q36 hI.T) (q37 hI.T) rfl (hl.1.trans hml.symm) rfl dX5_init_1 (Nat.le_of_ble_eq_true rfl) (Nat.le_of_ble_eq_true rfl) ?_
  refine W.eq (g2 := F0 m 4 ls []) rfl ?_
  refine lv_aload_n hx hb dX5_init_4 rfl (lv_at hl 0 rfl) ?_
  refine lv_bipush (v := 12) hx hb dX5_init_5 (by decide) ?_
  refine g_newa (ty := .int) (t0 := 0) (N := 12) hx hb hI rfl (q87 hI.T) rfl (fun h => h) rfl (by decide) (by decide) (by decide) (Nat.le_of_ble_eq_true rfl) (Nat.le_of_ble_eq_true rfl) dX5_init_7 (fun H hI => ?_)
  refine g_putF (T := TX5) (N := 4) (k := 1) (ty := .array (.int)) hx hb hI hown rfl (by decide) lyX5 tyX5 tyX5_ok nmX5 (q166 hI.T) hin rfl rfl rfl rfl rfl (Nat.le_of_ble_eq_true rfl) dX5_init_9 (fun H locs hI => ?_)
  refine lv_aload_n hx hb dX5_init_12 rfl (lv_at hl 0 rfl) ?_
  refine lv_bipush (v := 12) hx hb dX5_init_13 (by decide) ?_
  refine g_newa (ty := .char) (t0 := 2) (N := 12) hx hb hI rfl (q181 hI.T) rfl (fun h => h) rfl (by decide) (by decide) (by decide) (Nat.le_of_ble_eq_true rfl) (Nat.le_of_ble_eq_true rfl) dX5_init_15 (fun H hI => ?_)
  refine g_putF (T := TX5) (N := 4) (k := 2) (ty := .array (.char)) hx hb hI hown rfl (by decide) lyX5 tyX5 tyX5_ok nmX5 (q168 hI.T) hin rfl rfl rfl rfl rfl (Nat.le_of_ble_eq_true rfl) dX5_init_17 (fun H locs hI => ?_)
  refine lv_aload_n hx hb dX5_init_20 rfl (lv_at hl 0 rfl) ?_
  refine lv_bipush (v := 12) hx hb dX5_init_21 (by decide) ?_
  refine g_newa (ty := .int) (t0 := 0) (N := 12) hx hb hI rfl (q87 hI.T) rfl (fun h => h) rfl (by decide) (by decide) (by decide) (Nat.le_of_ble_eq_true rfl) (Nat.le_of_ble_eq_true rfl) dX5_init_23 (fun H hI => ?_)
  refine g_putF (T := TX5) (N := 4) (k := 3) (ty := .array (.int)) hx hb hI hown rfl (by decide) lyX5 tyX5 tyX5_ok nmX5 (q170 hI.T) hin rfl rfl rfl rfl rfl (Nat.le_of_ble_eq_true rfl) dX5_init_25 (fun H locs hI => ?_)
  exact g_ret hx hb hr hlk hI rfl dX5_init_28
theorem df_X7 : ∀ j, j < 2 → defaultValue (tyX7 j) = vp_V [.null, .int 0] j := fun j hj => match j, hj with
  | 0, _ => rfl
  | 1, _ => rfl
  | _ + 2, h => absurd h (by omega)
set_option maxRecDepth 100000 in
theorem kc_X7_init : Cond.code yX7_init cX7_init 1 none ∈ lw_tbl := (tin2 (List.mem_of_getElem? (l := tables_1_2) (i := 42) rfl))
def ws_X7 (w : WD) (a z : Nat) : va_W := [(a, .inr (6, [.ref (z), .int 0])), (z, .inl (w.2.2.1 2, 200, .inl fun _ => 0))]
theorem ge_X7 (w : WD) (a z : Nat) (h : a ≤ z) : ∀ q ∈ ws_X7 w a z, a ≤ q.1 := by
  intro q hq
  unfold ws_X7 at hq
  simp only [List.mem_cons, List.not_mem_nil, or_false] at hq
  rcases hq with rfl | rfl
  all_goals (dsimp only; omega)
set_option maxRecDepth 100000 in
theorem gc_X7 (l : Launch) (w : WD) (sz a : Nat) : gMet l yX7_init cX7_init 1 { frames := 1, cells := 1, slots := 200, locals := 13 } w sz a (.inr (6, [.null, .int 0])) (ws_X7 w a sz) 1 200 := by
  refine g_of (by decide) rfl (Nat.le_of_ble_eq_true rfl) ?_
  intro p e s m args below meth c hx hb hr hml hown hlk hin hsz hI ls hl
  subst hsz
  have hl : lv_has ls 1 [(0, .ref a)] := hl
  refine lv_aload_n hx hb dX7_init_0 rfl (lv_at hl 0 rfl) ?_
  refine W.objInit hx hb hown (q283 hI.T) (q36 hI.T) (q37 hI.T) rfl (hl.1.trans hml.symm) rfl dX7_init_1 (Nat.le_of_ble_eq_true rfl) (Nat.le_of_ble_eq_true rfl) ?_
  refine W.eq (g2 := F0 m 4 ls []) rfl ?_
  refine lv_aload_n hx hb dX7_init_4 rfl (lv_at hl 0 rfl) ?_
  refine lv_sipush (v := 200) hx hb dX7_init_5 (by decide) ?_
  refine g_newa (ty := .char) (t0 := 2) (N := 200) hx hb hI rfl (q181 hI.T) rfl (fun h => h) rfl (by decide) (by decide) (by decide) (Nat.le_of_ble_eq_true rfl) (Nat.le_of_ble_eq_true rfl) dX7_init_8 (fun H hI => ?_)
  refine g_putF (T := TX7) (N := 2) (k := 0) (ty := .array (.char)) hx hb hI hown rfl (by decide) lyX7 tyX7 tyX7_ok nmX7 (q284 hI.T) hin rfl rfl rfl rfl rfl (Nat.le_of_ble_eq_true rfl) dX7_init_10 (fun H locs hI => ?_)
  exact g_ret hx hb hr hlk hI rfl dX7_init_13
theorem df_X9 : ∀ j, j < 5 → defaultValue (tyX9 j) = vp_V [.null, .null, .null, .null, .int 0] j := fun j hj => match j, hj with
  | 0, _ => rfl
  | 1, _ => rfl
  | 2, _ => rfl
  | 3, _ => rfl
  | 4, _ => rfl
  | _ + 5, h => absurd h (by omega)
set_option maxRecDepth 100000 in
theorem kc_X9_init : Cond.code yX9_init cX9_init 1 none ∈ lw_tbl := (tin1 (List.mem_of_getElem? (l := tables_1_1) (i := 42) rfl))
def ws_X9 (w : WD) (a z : Nat) : va_W := [(a, .inr (8, [.ref (z), .ref (z + 4), .ref (z + 5), .ref (z + 11), .int 0]))] ++ (ws_X6 w (z) (z + 1)) ++ (ws_X3 w (z + 4) (z + 5)) ++ (ws_X1 w (z + 5) (z + 6)) ++ (ws_X5 w (z + 11) (z + 12))
theorem ge_X9 (w : WD) (a z : Nat) (h : a ≤ z) : ∀ q ∈ ws_X9 w a z, a ≤ q.1 := by
  intro q hq
  unfold ws_X9 at hq
  rcases List.mem_append.mp hq with hq | hq
  · rcases List.mem_append.mp hq with hq | hq
    · rcases List.mem_append.mp hq with hq | hq
      · rcases List.mem_append.mp hq with hq | hq
        · simp only [List.mem_cons, List.not_mem_nil, or_false] at hq
          subst hq
          all_goals (dsimp only; omega)
        · exact Nat.le_trans (by omega) (ge_X6 w _ _ (by omega) q hq)
      · exact Nat.le_trans (by omega) (ge_X3 w _ _ (by omega) q hq)
    · exact Nat.le_trans (by omega) (ge_X1 w _ _ (by omega) q hq)
  · exact Nat.le_trans (by omega) (ge_X5 w _ _ (by omega) q hq)
set_option maxRecDepth 100000 in
theorem gc_X9 (l : Launch) (w : WD) (sz a : Nat) : gMet l yX9_init cX9_init 1 { frames := 2, cells := 15, slots := 103, locals := 33 } w sz a (.inr (8, [.null, .null, .null, .null, .int 0])) (ws_X9 w a sz) 15 103 := by
  refine g_of (by decide) rfl (Nat.le_of_ble_eq_true rfl) ?_
  intro p e s m args below meth c hx hb hr hml hown hlk hin hsz hI ls hl
  subst hsz
  have hl : lv_has ls 1 [(0, .ref a)] := hl
  refine lv_aload_n hx hb dX9_init_0 rfl (lv_at hl 0 rfl) ?_
  refine W.objInit hx hb hown (q43 hI.T) (q36 hI.T) (q37 hI.T) rfl (hl.1.trans hml.symm) rfl dX9_init_1 (Nat.le_of_ble_eq_true rfl) (Nat.le_of_ble_eq_true rfl) ?_
  refine W.eq (g2 := F0 m 4 ls []) rfl ?_
  refine lv_aload_n hx hb dX9_init_4 rfl (lv_at hl 0 rfl) ?_
  refine g_make (host := "ShareVault") (T := TX6) (N := 7) (ci := 5) (fs := [.int 0, .null, .int 0, .int 0, .null, .int 0, .null]) hx hb hml hI hown rfl lyX6 tyX6 tyX6_ok (q44 hI.T) (q45 hI.T) (q3 hI.T) df_X6 (gc_X6 l w _ _) (ge_X6 w _ _ (Nat.le_succ _)) (Or.inr (g_cn hI.T kc_X6_init (tin1 (List.mem_of_getElem? (l := tables_1_1) (i := 3) rfl)) (q46 hI.T) (by decide +kernel) ⟨rfl, rfl, (Nat.le_of_ble_eq_true rfl), (Nat.le_of_ble_eq_true rfl)⟩)) rfl (q47 hI.T) hl.1 (Nat.le_of_ble_eq_true rfl) (Nat.le_of_ble_eq_true rfl) (Nat.le_of_ble_eq_true rfl) dX9_init_5 dX9_init_8 dX9_init_9 (fun H locs hI => ?_)
  refine g_putF (T := TX9) (N := 5) (k := 0) (ty := .object "ShareVault$Keys") hx hb hI hown rfl (by decide) lyX9 tyX9 tyX9_ok nmX9 (q182 hI.T) hin rfl rfl rfl rfl rfl (Nat.le_of_ble_eq_true rfl) dX9_init_12 (fun H locs hI => ?_)
  refine lv_aload_n hx hb dX9_init_15 rfl (lv_at hl 0 rfl) ?_
  refine g_make (host := "ShareVault") (T := TX3) (N := 4) (ci := 2) (fs := [.int 0, .int 0, .int 0, .int 0]) hx hb hml hI hown rfl lyX3 tyX3 tyX3_ok (q88 hI.T) (q89 hI.T) (q4 hI.T) df_X3 (gc_X3 l w _ _) (ge_X3 w _ _ (Nat.le_succ _)) (Or.inr (g_cn hI.T kc_X3_init (tin1 (List.mem_of_getElem? (l := tables_1_1) (i := 4) rfl)) (q90 hI.T) (by decide +kernel) ⟨rfl, rfl, (Nat.le_of_ble_eq_true rfl), (Nat.le_of_ble_eq_true rfl)⟩)) rfl (q91 hI.T) hl.1 (Nat.le_of_ble_eq_true rfl) (Nat.le_of_ble_eq_true rfl) (Nat.le_of_ble_eq_true rfl) dX9_init_16 dX9_init_19 dX9_init_20 (fun H locs hI => ?_)
  refine g_putF (T := TX9) (N := 5) (k := 1) (ty := .object "ShareVault$Door") hx hb hI hown rfl (by decide) lyX9 tyX9 tyX9_ok nmX9 (q184 hI.T) hin rfl rfl rfl rfl rfl (Nat.le_of_ble_eq_true rfl) dX9_init_23 (fun H locs hI => ?_)
  refine lv_aload_n hx hb dX9_init_26 rfl (lv_at hl 0 rfl) ?_
  refine g_make (host := "ShareVault") (T := TX1) (N := 8) (ci := 0) (fs := [.int 0, .null, .null, .int 0, .int 0, .null, .null, .null]) hx hb hml hI hown rfl lyX1 tyX1 tyX1_ok (q114 hI.T) (q115 hI.T) (q5 hI.T) df_X1 (gc_X1 l w _ _) (ge_X1 w _ _ (Nat.le_succ _)) (Or.inr (g_cn hI.T kc_X1_init (tin1 (List.mem_of_getElem? (l := tables_1_1) (i := 5) rfl)) (q116 hI.T) (by decide +kernel) ⟨rfl, rfl, (Nat.le_of_ble_eq_true rfl), (Nat.le_of_ble_eq_true rfl)⟩)) rfl (q117 hI.T) hl.1 (Nat.le_of_ble_eq_true rfl) (Nat.le_of_ble_eq_true rfl) (Nat.le_of_ble_eq_true rfl) dX9_init_27 dX9_init_30 dX9_init_31 (fun H locs hI => ?_)
  refine g_putF (T := TX9) (N := 5) (k := 2) (ty := .object "ShareVault$Building") hx hb hI hown rfl (by decide) lyX9 tyX9 tyX9_ok nmX9 (q186 hI.T) hin rfl rfl rfl rfl rfl (Nat.le_of_ble_eq_true rfl) dX9_init_34 (fun H locs hI => ?_)
  refine lv_aload_n hx hb dX9_init_37 rfl (lv_at hl 0 rfl) ?_
  refine g_make (host := "ShareVault") (T := TX5) (N := 4) (ci := 4) (fs := [.int 0, .null, .null, .null]) hx hb hml hI hown rfl lyX5 tyX5 tyX5_ok (q158 hI.T) (q159 hI.T) (q6 hI.T) df_X5 (gc_X5 l w _ _) (ge_X5 w _ _ (Nat.le_succ _)) (Or.inr (g_cn hI.T kc_X5_init (tin1 (List.mem_of_getElem? (l := tables_1_1) (i := 6) rfl)) (q160 hI.T) (by decide +kernel) ⟨rfl, rfl, (Nat.le_of_ble_eq_true rfl), (Nat.le_of_ble_eq_true rfl)⟩)) rfl (q161 hI.T) hl.1 (Nat.le_of_ble_eq_true rfl) (Nat.le_of_ble_eq_true rfl) (Nat.le_of_ble_eq_true rfl) dX9_init_38 dX9_init_41 dX9_init_42 (fun H locs hI => ?_)
  refine g_putF (T := TX9) (N := 5) (k := 3) (ty := .object "ShareVault$Journal") hx hb hI hown rfl (by decide) lyX9 tyX9 tyX9_ok nmX9 (q188 hI.T) hin rfl rfl rfl rfl rfl (Nat.le_of_ble_eq_true rfl) dX9_init_45 (fun H locs hI => ?_)
  exact g_ret hx hb hr hlk hI rfl dX9_init_48
theorem df_X12 : ∀ j, j < 23 → defaultValue (tyX12 j) = vp_V [.int 0, .null, .null, .null, .null, .null, .int 0, .int 0, .null, .null, .null, .null, .int 0, .int 0, .int 0, .int 0, .int 0, .int 0, .int 0, .int 0, .int 0, .int 0, .int 0] j := fun j hj => match j, hj with
  | 0, _ => rfl
  | 1, _ => rfl
  | 2, _ => rfl
  | 3, _ => rfl
  | 4, _ => rfl
  | 5, _ => rfl
  | 6, _ => rfl
  | 7, _ => rfl
  | 8, _ => rfl
  | 9, _ => rfl
  | 10, _ => rfl
  | 11, _ => rfl
  | 12, _ => rfl
  | 13, _ => rfl
  | 14, _ => rfl
  | 15, _ => rfl
  | 16, _ => rfl
  | 17, _ => rfl
  | 18, _ => rfl
  | 19, _ => rfl
  | 20, _ => rfl
  | 21, _ => rfl
  | 22, _ => rfl
  | _ + 23, h => absurd h (by omega)
set_option maxRecDepth 100000 in
theorem kc_X12_init : Cond.code yX12_init cX12_init 1 none ∈ lw_tbl := (tin6 (List.mem_of_getElem? (l := tables_1_6) (i := 224) rfl))
def ws_X12 (w : WD) (a z : Nat) : va_W := [(a, .inr (10, [.int 0, .ref (z), .ref (z + 1), .ref (z + 2), .ref (z + 3), .ref (z + 4), .int 0, .int 0, .ref (z + 5), .ref (z + 6), .ref (z + 7), .ref (z + 8), .int 0, .int 0, .int (-1), .int 0, .int 0, .int 0, .int 0, .int 0, .int 0, .int 0, .int 0])), (z, .inl (w.2.2.1 0, 92, .inl fun _ => 0)), (z + 1, .inl (w.2.2.1 0, 92, .inl fun _ => 0)), (z + 2, .inl (w.2.2.1 0, 92, .inl fun _ => 0)), (z + 3, .inl (w.2.2.1 0, 736, .inl fun _ => 0)), (z + 4, .inl (w.2.2.1 0, 92, .inl fun _ => 0)), (z + 5, .inl (w.2.2.1 0, 60, .inl fun _ => 0)), (z + 6, .inl (w.2.2.1 0, 360, .inl fun _ => 0)), (z + 7, .inl (w.2.2.1 0, 140, .inl fun _ => 0)), (z + 8, .inl (w.2.2.1 0, 3, .inl fun _ => 0))]
theorem ge_X12 (w : WD) (a z : Nat) (h : a ≤ z) : ∀ q ∈ ws_X12 w a z, a ≤ q.1 := by
  intro q hq
  unfold ws_X12 at hq
  simp only [List.mem_cons, List.not_mem_nil, or_false] at hq
  rcases hq with rfl | rfl | rfl | rfl | rfl | rfl | rfl | rfl | rfl | rfl
  all_goals (dsimp only; omega)
set_option maxRecDepth 100000 in
theorem gc_X12 (l : Launch) (w : WD) (sz a : Nat) : gMet l yX12_init cX12_init 1 { frames := 1, cells := 9, slots := 1667, locals := 13 } w sz a (.inr (10, [.int 0, .null, .null, .null, .null, .null, .int 0, .int 0, .null, .null, .null, .null, .int 0, .int 0, .int 0, .int 0, .int 0, .int 0, .int 0, .int 0, .int 0, .int 0, .int 0])) (ws_X12 w a sz) 9 1667 := by
  refine g_of (by decide) rfl (Nat.le_of_ble_eq_true rfl) ?_
  intro p e s m args below meth c hx hb hr hml hown hlk hin hsz hI ls hl
  subst hsz
  have hl : lv_has ls 1 [(0, .ref a)] := hl
  refine lv_aload_n hx hb dX12_init_0 rfl (lv_at hl 0 rfl) ?_
  refine W.objInit hx hb hown (q1425 hI.T) (q36 hI.T) (q37 hI.T) rfl (hl.1.trans hml.symm) rfl dX12_init_1 (Nat.le_of_ble_eq_true rfl) (Nat.le_of_ble_eq_true rfl) ?_
  refine W.eq (g2 := F0 m 4 ls []) rfl ?_
  refine lv_aload_n hx hb dX12_init_4 rfl (lv_at hl 0 rfl) ?_
  refine lv_bipush (v := 92) hx hb dX12_init_5 (by decide) ?_
  refine g_newa (ty := .int) (t0 := 0) (N := 92) hx hb hI rfl (q87 hI.T) rfl (fun h => h) rfl (by decide) (by decide) (by decide) (Nat.le_of_ble_eq_true rfl) (Nat.le_of_ble_eq_true rfl) dX12_init_7 (fun H hI => ?_)
  refine g_putF (T := TX12) (N := 23) (k := 1) (ty := .array (.int)) hx hb hI hown rfl (by decide) lyX12 tyX12 tyX12_ok nmX12 (q1427 hI.T) hin rfl rfl rfl rfl rfl (Nat.le_of_ble_eq_true rfl) dX12_init_9 (fun H locs hI => ?_)
  refine lv_aload_n hx hb dX12_init_12 rfl (lv_at hl 0 rfl) ?_
  refine lv_bipush (v := 92) hx hb dX12_init_13 (by decide) ?_
  refine g_newa (ty := .int) (t0 := 0) (N := 92) hx hb hI rfl (q87 hI.T) rfl (fun h => h) rfl (by decide) (by decide) (by decide) (Nat.le_of_ble_eq_true rfl) (Nat.le_of_ble_eq_true rfl) dX12_init_15 (fun H hI => ?_)
  refine g_putF (T := TX12) (N := 23) (k := 2) (ty := .array (.int)) hx hb hI hown rfl (by decide) lyX12 tyX12 tyX12_ok nmX12 (q1428 hI.T) hin rfl rfl rfl rfl rfl (Nat.le_of_ble_eq_true rfl) dX12_init_17 (fun H locs hI => ?_)
  refine lv_aload_n hx hb dX12_init_20 rfl (lv_at hl 0 rfl) ?_
  refine lv_bipush (v := 92) hx hb dX12_init_21 (by decide) ?_
  refine g_newa (ty := .int) (t0 := 0) (N := 92) hx hb hI rfl (q87 hI.T) rfl (fun h => h) rfl (by decide) (by decide) (by decide) (Nat.le_of_ble_eq_true rfl) (Nat.le_of_ble_eq_true rfl) dX12_init_23 (fun H hI => ?_)
  refine g_putF (T := TX12) (N := 23) (k := 3) (ty := .array (.int)) hx hb hI hown rfl (by decide) lyX12 tyX12 tyX12_ok nmX12 (q1429 hI.T) hin rfl rfl rfl rfl rfl (Nat.le_of_ble_eq_true rfl) dX12_init_25 (fun H locs hI => ?_)
  refine lv_aload_n hx hb dX12_init_28 rfl (lv_at hl 0 rfl) ?_
  refine lv_sipush (v := 736) hx hb dX12_init_29 (by decide) ?_
  refine g_newa (ty := .int) (t0 := 0) (N := 736) hx hb hI rfl (q87 hI.T) rfl (fun h => h) rfl (by decide) (by decide) (by decide) (Nat.le_of_ble_eq_true rfl) (Nat.le_of_ble_eq_true rfl) dX12_init_32 (fun H hI => ?_)
  refine g_putF (T := TX12) (N := 23) (k := 4) (ty := .array (.int)) hx hb hI hown rfl (by decide) lyX12 tyX12 tyX12_ok nmX12 (q1430 hI.T) hin rfl rfl rfl rfl rfl (Nat.le_of_ble_eq_true rfl) dX12_init_34 (fun H locs hI => ?_)
  refine lv_aload_n hx hb dX12_init_37 rfl (lv_at hl 0 rfl) ?_
  refine lv_bipush (v := 92) hx hb dX12_init_38 (by decide) ?_
  refine g_newa (ty := .int) (t0 := 0) (N := 92) hx hb hI rfl (q87 hI.T) rfl (fun h => h) rfl (by decide) (by decide) (by decide) (Nat.le_of_ble_eq_true rfl) (Nat.le_of_ble_eq_true rfl) dX12_init_40 (fun H hI => ?_)
  refine g_putF (T := TX12) (N := 23) (k := 5) (ty := .array (.int)) hx hb hI hown rfl (by decide) lyX12 tyX12 tyX12_ok nmX12 (q1431 hI.T) hin rfl rfl rfl rfl rfl (Nat.le_of_ble_eq_true rfl) dX12_init_42 (fun H locs hI => ?_)
  refine lv_aload_n hx hb dX12_init_45 rfl (lv_at hl 0 rfl) ?_
  refine lv_bipush (v := 60) hx hb dX12_init_46 (by decide) ?_
  refine g_newa (ty := .int) (t0 := 0) (N := 60) hx hb hI rfl (q87 hI.T) rfl (fun h => h) rfl (by decide) (by decide) (by decide) (Nat.le_of_ble_eq_true rfl) (Nat.le_of_ble_eq_true rfl) dX12_init_48 (fun H hI => ?_)
  refine g_putF (T := TX12) (N := 23) (k := 8) (ty := .array (.int)) hx hb hI hown rfl (by decide) lyX12 tyX12 tyX12_ok nmX12 (q1434 hI.T) hin rfl rfl rfl rfl rfl (Nat.le_of_ble_eq_true rfl) dX12_init_50 (fun H locs hI => ?_)
  refine lv_aload_n hx hb dX12_init_53 rfl (lv_at hl 0 rfl) ?_
  refine lv_sipush (v := 360) hx hb dX12_init_54 (by decide) ?_
  refine g_newa (ty := .int) (t0 := 0) (N := 360) hx hb hI rfl (q87 hI.T) rfl (fun h => h) rfl (by decide) (by decide) (by decide) (Nat.le_of_ble_eq_true rfl) (Nat.le_of_ble_eq_true rfl) dX12_init_57 (fun H hI => ?_)
  refine g_putF (T := TX12) (N := 23) (k := 9) (ty := .array (.int)) hx hb hI hown rfl (by decide) lyX12 tyX12 tyX12_ok nmX12 (q1435 hI.T) hin rfl rfl rfl rfl rfl (Nat.le_of_ble_eq_true rfl) dX12_init_59 (fun H locs hI => ?_)
  refine lv_aload_n hx hb dX12_init_62 rfl (lv_at hl 0 rfl) ?_
  refine lv_sipush (v := 140) hx hb dX12_init_63 (by decide) ?_
  refine g_newa (ty := .int) (t0 := 0) (N := 140) hx hb hI rfl (q87 hI.T) rfl (fun h => h) rfl (by decide) (by decide) (by decide) (Nat.le_of_ble_eq_true rfl) (Nat.le_of_ble_eq_true rfl) dX12_init_66 (fun H hI => ?_)
  refine g_putF (T := TX12) (N := 23) (k := 10) (ty := .array (.int)) hx hb hI hown rfl (by decide) lyX12 tyX12 tyX12_ok nmX12 (q1436 hI.T) hin rfl rfl rfl rfl rfl (Nat.le_of_ble_eq_true rfl) dX12_init_68 (fun H locs hI => ?_)
  refine lv_aload_n hx hb dX12_init_71 rfl (lv_at hl 0 rfl) ?_
  refine lv_iconst (v := 3) hx hb dX12_init_72 (by decide) ?_
  refine g_newa (ty := .int) (t0 := 0) (N := 3) hx hb hI rfl (q87 hI.T) rfl (fun h => h) rfl (by decide) (by decide) (by decide) (Nat.le_of_ble_eq_true rfl) (Nat.le_of_ble_eq_true rfl) dX12_init_73 (fun H hI => ?_)
  refine g_putF (T := TX12) (N := 23) (k := 11) (ty := .array (.int)) hx hb hI hown rfl (by decide) lyX12 tyX12 tyX12_ok nmX12 (q1437 hI.T) hin rfl rfl rfl rfl rfl (Nat.le_of_ble_eq_true rfl) dX12_init_75 (fun H locs hI => ?_)
  refine lv_aload_n hx hb dX12_init_78 rfl (lv_at hl 0 rfl) ?_
  refine lv_iconst (v := (-1)) hx hb dX12_init_79 (by decide) ?_
  refine g_put (T := TX12) (N := 23) (k := 14) (ty := .int) hx hb hI hown rfl (by decide) lyX12 tyX12 tyX12_ok nmX12 (q1440 hI.T) rfl rfl rfl rfl (Nat.le_of_ble_eq_true rfl) dX12_init_80 (fun H locs hI => ?_)
  exact g_ret hx hb hr hlk hI rfl dX12_init_83
theorem df_X8 : ∀ j, j < 3 → defaultValue (tyX8 j) = vp_V [.null, .null, .null] j := fun j hj => match j, hj with
  | 0, _ => rfl
  | 1, _ => rfl
  | 2, _ => rfl
  | _ + 3, h => absurd h (by omega)
set_option maxRecDepth 100000 in
theorem kc_X8_init : Cond.code yX8_init cX8_init 1 none ∈ lw_tbl := (tin1 (List.mem_of_getElem? (l := tables_1_1) (i := 229) rfl))
def ws_X8 (w : WD) (a z : Nat) : va_W := [(a, .inr (7, [.ref (z), .ref (z + 4), .ref (z + 5)])), (z, .inl (w.2.2.1 4, 3, .inr (.inr (.inr (.inr fun j => some (z + 1 + j))))))] ++ ((List.range 3).map (fun j => (z + 1 + j, (.inl (w.2.2.1 0, 4, .inl fun _ => 0) : va_E)))) ++ [(z + 4, .inl (w.2.2.1 0, 3, .inl fun _ => 0)), (z + 5, .inl (w.2.2.1 0, 8, .inl fun _ => 0))]
theorem ge_X8 (w : WD) (a z : Nat) (h : a ≤ z) : ∀ q ∈ ws_X8 w a z, a ≤ q.1 := by
  intro q hq
  unfold ws_X8 at hq
  rcases List.mem_append.mp hq with hq | hq
  · rcases List.mem_append.mp hq with hq | hq
    · simp only [List.mem_cons, List.not_mem_nil, or_false] at hq
      rcases hq with rfl | rfl
      all_goals (dsimp only; omega)
    · obtain ⟨i, -, rfl⟩ := List.mem_map.mp hq
      dsimp only
      omega
  · simp only [List.mem_cons, List.not_mem_nil, or_false] at hq
    rcases hq with rfl | rfl
    all_goals (dsimp only; omega)
set_option maxRecDepth 100000 in
theorem gc_X8 (l : Launch) (w : WD) (sz a : Nat) : gMet l yX8_init cX8_init 1 { frames := 1, cells := 6, slots := 26, locals := 13 } w sz a (.inr (7, [.null, .null, .null])) (ws_X8 w a sz) 6 26 := by
  refine g_of (by decide) rfl (Nat.le_of_ble_eq_true rfl) ?_
  intro p e s m args below meth c hx hb hr hml hown hlk hin hsz hI ls hl
  subst hsz
  have hl : lv_has ls 1 [(0, .ref a)] := hl
  refine lv_aload_n hx hb dX8_init_0 rfl (lv_at hl 0 rfl) ?_
  refine W.objInit hx hb hown (q230 hI.T) (q36 hI.T) (q37 hI.T) rfl (hl.1.trans hml.symm) rfl dX8_init_1 (Nat.le_of_ble_eq_true rfl) (Nat.le_of_ble_eq_true rfl) ?_
  refine W.eq (g2 := F0 m 4 ls []) rfl ?_
  refine lv_aload_n hx hb dX8_init_4 rfl (lv_at hl 0 rfl) ?_
  refine lv_iconst (v := 3) hx hb dX8_init_5 (by decide) ?_
  refine lv_iconst (v := 4) hx hb dX8_init_6 (by decide) ?_
  refine g_multi (tA := 4) (tI := 0) (N := 3) (K := 4) hx hb hI hown (q231 hI.T) (over_moved (Vm.Alike.refl s.vm) hI.T0.2.2.2) (q87 hI.T) rfl rfl (by decide) (by decide) (by decide) (by decide) (by decide) (by decide) (by decide) (Nat.le_of_ble_eq_true rfl) (Nat.le_of_ble_eq_true rfl) dX8_init_7 (fun H hI => ?_)
  refine g_putF (T := TX8) (N := 3) (k := 0) (ty := .array (.array (.int))) hx hb hI hown rfl (by decide) lyX8 tyX8 tyX8_ok nmX8 (q233 hI.T) hin rfl rfl rfl rfl rfl (Nat.le_of_ble_eq_true rfl) dX8_init_11 (fun H locs hI => ?_)
  refine lv_aload_n hx hb dX8_init_14 rfl (lv_at hl 0 rfl) ?_
  refine lv_iconst (v := 3) hx hb dX8_init_15 (by decide) ?_
  refine g_newa (ty := .int) (t0 := 0) (N := 3) hx hb hI rfl (q87 hI.T) rfl (fun h => h) rfl (by decide) (by decide) (by decide) (Nat.le_of_ble_eq_true rfl) (Nat.le_of_ble_eq_true rfl) dX8_init_16 (fun H hI => ?_)
  refine g_putF (T := TX8) (N := 3) (k := 1) (ty := .array (.int)) hx hb hI hown rfl (by decide) lyX8 tyX8 tyX8_ok nmX8 (q234 hI.T) hin rfl rfl rfl rfl rfl (Nat.le_of_ble_eq_true rfl) dX8_init_18 (fun H locs hI => ?_)
  refine lv_aload_n hx hb dX8_init_21 rfl (lv_at hl 0 rfl) ?_
  refine lv_bipush (v := 8) hx hb dX8_init_22 (by decide) ?_
  refine g_newa (ty := .int) (t0 := 0) (N := 8) hx hb hI rfl (q87 hI.T) rfl (fun h => h) rfl (by decide) (by decide) (by decide) (Nat.le_of_ble_eq_true rfl) (Nat.le_of_ble_eq_true rfl) dX8_init_24 (fun H hI => ?_)
  refine g_putF (T := TX8) (N := 3) (k := 2) (ty := .array (.int)) hx hb hI hown rfl (by decide) lyX8 tyX8 tyX8_ok nmX8 (q235 hI.T) hin rfl rfl rfl rfl rfl (Nat.le_of_ble_eq_true rfl) dX8_init_26 (fun H locs hI => ?_)
  exact g_ret hx hb hr hlk hI rfl dX8_init_29
theorem df_X2 : ∀ j, j < 7 → defaultValue (tyX2 j) = vp_V [.null, .int 0, .int 0, .int 0, .null, .null, .int 0] j := fun j hj => match j, hj with
  | 0, _ => rfl
  | 1, _ => rfl
  | 2, _ => rfl
  | 3, _ => rfl
  | 4, _ => rfl
  | 5, _ => rfl
  | 6, _ => rfl
  | _ + 7, h => absurd h (by omega)
set_option maxRecDepth 100000 in
theorem kc_X2_init : Cond.code yX2_init cX2_init 1 none ∈ lw_tbl := (tin2 (List.mem_of_getElem? (l := tables_1_2) (i := 7) rfl))
def ws_X2 (w : WD) (a z : Nat) : va_W := [(a, .inr (1, [.ref (z), .int 0, .int 0, .int 0, .ref (z + 1), .ref (z + 2), .int 0])), (z, .inl (w.2.2.1 2, 60, .inl fun _ => 0)), (z + 1, .inl (w.2.2.1 5, 15, .inr (.inr (.inr (.inr fun _ => none))))), (z + 2, .inl (w.2.2.1 4, 15, .inr (.inr (.inr (.inr fun j => some (z + 2 + 1 + j))))))] ++ ((List.range 15).map (fun j => (z + 2 + 1 + j, (.inl (w.2.2.1 0, 4, .inl fun _ => 0) : va_E))))
theorem ge_X2 (w : WD) (a z : Nat) (h : a ≤ z) : ∀ q ∈ ws_X2 w a z, a ≤ q.1 := by
  intro q hq
  unfold ws_X2 at hq
  rcases List.mem_append.mp hq with hq | hq
  · simp only [List.mem_cons, List.not_mem_nil, or_false] at hq
    rcases hq with rfl | rfl | rfl | rfl
    all_goals (dsimp only; omega)
  · obtain ⟨i, -, rfl⟩ := List.mem_map.mp hq
    dsimp only
    omega
set_option maxRecDepth 100000 in
theorem gc_X2 (l : Launch) (w : WD) (sz a : Nat) : gMet l yX2_init cX2_init 1 { frames := 1, cells := 18, slots := 150, locals := 13 } w sz a (.inr (1, [.null, .int 0, .int 0, .int 0, .null, .null, .int 0])) (ws_X2 w a sz) 18 150 := by
  refine g_of (by decide) rfl (Nat.le_of_ble_eq_true rfl) ?_
  intro p e s m args below meth c hx hb hr hml hown hlk hin hsz hI ls hl
  subst hsz
  have hl : lv_has ls 1 [(0, .ref a)] := hl
  refine lv_aload_n hx hb dX2_init_0 rfl (lv_at hl 0 rfl) ?_
  refine W.objInit hx hb hown (q248 hI.T) (q36 hI.T) (q37 hI.T) rfl (hl.1.trans hml.symm) rfl dX2_init_1 (Nat.le_of_ble_eq_true rfl) (Nat.le_of_ble_eq_true rfl) ?_
  refine W.eq (g2 := F0 m 4 ls []) rfl ?_
  refine lv_aload_n hx hb dX2_init_4 rfl (lv_at hl 0 rfl) ?_
  refine lv_bipush (v := 60) hx hb dX2_init_5 (by decide) ?_
  refine g_newa (ty := .char) (t0 := 2) (N := 60) hx hb hI rfl (q181 hI.T) rfl (fun h => h) rfl (by decide) (by decide) (by decide) (Nat.le_of_ble_eq_true rfl) (Nat.le_of_ble_eq_true rfl) dX2_init_7 (fun H hI => ?_)
  refine g_putF (T := TX2) (N := 7) (k := 0) (ty := .array (.char)) hx hb hI hown rfl (by decide) lyX2 tyX2 tyX2_ok nmX2 (q252 hI.T) hin rfl rfl rfl rfl rfl (Nat.le_of_ble_eq_true rfl) dX2_init_9 (fun H locs hI => ?_)
  refine lv_aload_n hx hb dX2_init_12 rfl (lv_at hl 0 rfl) ?_
  refine lv_bipush (v := 15) hx hb dX2_init_13 (by decide) ?_
  refine g_anew (C := "ShareVault$Word") (t0 := 5) (N := 15) hx hb hI hown (q249 hI.T) (va_AO.use hI.T0.2.2.1) rfl (by decide) (by decide) (by decide) (Nat.le_of_ble_eq_true rfl) (Nat.le_of_ble_eq_true rfl) dX2_init_15 (fun H hI => ?_)
  refine g_putF (T := TX2) (N := 7) (k := 4) (ty := .array (.object "ShareVault$Word")) hx hb hI hown rfl (by decide) lyX2 tyX2 tyX2_ok nmX2 (q258 hI.T) hin rfl rfl rfl rfl rfl (Nat.le_of_ble_eq_true rfl) dX2_init_18 (fun H locs hI => ?_)
  refine lv_aload_n hx hb dX2_init_21 rfl (lv_at hl 0 rfl) ?_
  refine lv_bipush (v := 15) hx hb dX2_init_22 (by decide) ?_
  refine lv_iconst (v := 4) hx hb dX2_init_24 (by decide) ?_
  refine g_multi (tA := 4) (tI := 0) (N := 15) (K := 4) hx hb hI hown (q251 hI.T) (over_moved (Vm.Alike.refl s.vm) hI.T0.2.2.2) (q87 hI.T) rfl rfl (by decide) (by decide) (by decide) (by decide) (by decide) (by decide) (by decide) (Nat.le_of_ble_eq_true rfl) (Nat.le_of_ble_eq_true rfl) dX2_init_25 (fun H hI => ?_)
  refine g_putF (T := TX2) (N := 7) (k := 5) (ty := .array (.array (.int))) hx hb hI hown rfl (by decide) lyX2 tyX2 tyX2_ok nmX2 (q260 hI.T) hin rfl rfl rfl rfl rfl (Nat.le_of_ble_eq_true rfl) dX2_init_29 (fun H locs hI => ?_)
  exact g_ret hx hb hr hlk hI rfl dX2_init_32
