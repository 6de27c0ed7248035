/-! THE START: what the Statement gives of it, as the memory's world asks it -/
def stL : List Cond := flatC (Jvm.Cond.and given_1 narrow_1)
def stTx : List (String × Nat × Nat × Nat × Nat × Nat × Nat) := [("", 0, 0, 0, 0, 0, 0), ("", 0, 0, 0, 0, 0, 0), ("", 0, 0, 0, 0, 0, 0), ("", 0, 0, 0, 0, 0, 0), ("", 0, 0, 0, 0, 0, 0), ("", 0, 0, 0, 0, 0, 0), ("", 0, 0, 0, 0, 0, 0), ("", 0, 0, 0, 0, 0, 0), ("", 0, 0, 0, 0, 0, 0), ("", 0, 0, 0, 0, 0, 0), ("", 0, 0, 0, 0, 0, 0), ("", 0, 0, 0, 0, 0, 0), ("", 0, 0, 0, 0, 0, 0), ("ShareVault$Word", 64, 1203, 1204, 1205, 1206, 1207), ("ShareVault$Word", 66, 1213, 1214, 1215, 1216, 0), ("ShareVault$Word", 72, 1217, 1218, 1219, 1220, 1221), ("ShareVault$Word", 74, 1225, 1226, 1227, 1228, 1229), ("ShareVault$Word", 77, 1237, 1238, 1239, 1240, 1241), ("ShareVault$Word", 79, 1246, 1247, 1248, 1249, 1250), ("ShareVault$Word", 82, 1254, 1255, 1256, 1257, 1258), ("ShareVault$Word", 84, 1262, 1263, 1264, 1265, 1266), ("ShareVault$Word", 87, 1268, 1269, 1270, 1271, 1272), ("ShareVault$Word", 90, 1276, 1277, 1278, 1279, 1280), ("ShareVault$Word", 93, 1284, 1285, 1286, 1287, 1288), ("ShareVault$Word", 96, 1293, 1294, 1295, 1296, 1297), ("ShareVault$Word", 98, 1302, 1303, 1304, 1305, 1306), ("ShareVault$Word", 101, 1310, 1311, 1312, 1313, 1314), ("ShareVault$Word", 104, 1318, 1319, 1320, 1321, 1322), ("ShareVault$Word", 106, 1325, 1326, 1327, 1328, 1329), ("ShareVault$Word", 109, 1333, 1334, 1335, 1336, 1337), ("ShareVault$Word", 111, 1341, 1342, 1343, 1344, 1345), ("", 0, 0, 0, 0, 0, 0), ("", 0, 0, 0, 0, 0, 0), ("ShareVaultLaw", 314, 949, 950, 951, 952, 953), ("ShareVaultLaw", 323, 957, 958, 959, 960, 961), ("ShareVaultLaw", 325, 962, 963, 964, 965, 966), ("ShareVaultLaw", 331, 979, 980, 981, 982, 983), ("ShareVaultLaw", 333, 989, 990, 991, 992, 993), ("ShareVaultLaw", 335, 999, 1000, 1001, 1002, 1003)]
def stX (i : Nat) : String × Nat × Nat × Nat × Nat × Nat × Nat := stTx.getD i ("", 0, 0, 0, 0, 0, 0)
def stTm (i : Nat) : Term := .string (stX i).1 (stX i).2.1
def stNm : List (String × Nat × Nat × Nat × Nat) := [("HOLDER", 347, 348, 349, 350), ("SEAL", 351, 352, 353, 354), ("SHARE", 356, 357, 358, 359), ("GIVE", 362, 363, 364, 365), ("BACK", 369, 370, 371, 372), ("OPEN", 377, 378, 379, 380), ("CLOSE", 386, 387, 388, 389), ("GUARD", 396, 397, 398, 399), ("TURN", 407, 408, 409, 410), ("HUM", 419, 420, 421, 422), ("WAIT", 432, 433, 434, 435)]
def stN (k : Nat) : String × Nat × Nat × Nat × Nat := stNm.getD k ("", 0, 0, 0, 0)
def stW (k : Nat) : Term := .static "ShareVault$Word" (stN k).1 "LShareVault$Word;"
abbrev stIx (i : Nat) : Prop := (13 ≤ i ∧ i < 31) ∨ (33 ≤ i ∧ i < 39)
def stLt (i : Nat) : Nat := if i < 31 then mTl.getD i 0 else mLl.getD (i - 33) 0
def stLx (i : Nat) : List Int32 := if i < 31 then mTx.getD i [] else mLx.getD (i - 33) []
theorem st_in {args : Array Value} {s : State} (hn : ∀ c ∈ stL, c.before args s = true) {i : Nat} {c : Cond} (h : stL[i]? = some c) : c.before args s = true := hn c (List.mem_of_getElem? h)
theorem st_inv : ∀ j, j < 97 → stL[9 + j]? = some (Cond.eq (.elem (.static "ShareVault" "INVERSES" "[I") (.int (Int32.ofNat j))) (.int (mInv.getD j 0))) := by decide +kernel
theorem st_sw : ∀ j, j < 11 → stL[336 + j]? = some (Cond.eq (.elem (.static "ShareVault$1" "$SwitchMap$ShareVault$Word" "[I") (.int (Int32.ofNat j))) (.int (mSw.getD j 0))) := by decide +kernel
theorem st_do : ∀ j, j < 100 → stL[114 + j]? = some (Cond.eq (.elem (.static "java/lang/Integer" "DigitOnes" "[B") (.int (Int32.ofNat j))) (.int (Int32.ofNat (48 + j % 10)))) := by decide +kernel
theorem st_dt : ∀ j, j < 100 → stL[217 + j]? = some (Cond.eq (.elem (.static "java/lang/Integer" "DigitTens" "[B") (.int (Int32.ofNat j))) (.int (Int32.ofNat (48 + j / 10)))) := by decide +kernel
theorem st_wo : ∀ j, j < 11 → stL[322 + j]? = some (Cond.eq (.elem (.static "ShareVault$Commands" "WORDS" "[LShareVault$Word;") (.int (Int32.ofNat j))) (stW j)) := by decide +kernel
theorem st_co : ∀ k, k < 11 → stL[(stN k).2.1]? = some (Cond.exactly (stW k) "ShareVault$Word") ∧ stL[(stN k).2.2.1]? = some (Cond.eq (.field (stW k) "java/lang/Enum" "ordinal" "I") (.int (Int32.ofNat k))) ∧ stL[(stN k).2.2.2.1]? = some (Cond.eq (.field (stW k) "ShareVault$Word" "letters" "Ljava/lang/String;") (stTm (mLt.getD k 0))) ∧ stL[(stN k).2.2.2.2]? = some (Cond.eq (.field (stW k) "ShareVault$Word" "form" "Ljava/lang/String;") (stTm (mFm.getD k 0))) := by decide +kernel
theorem st_tx : ∀ i, i < 39 → stIx i → stL[(stX i).2.2.1]? = some (Cond.exactly (stTm i) "java/lang/String") ∧ stL[(stX i).2.2.2.1]? = some (Cond.eq (.field (stTm i) "java/lang/String" "coder" "B") (.int 0)) ∧ stL[(stX i).2.2.2.2.1]? = some (Cond.arrayOf (.field (stTm i) "java/lang/String" "value" "[B") .byte) ∧ stL[(stX i).2.2.2.2.2.1]? = some (Cond.eq (.length (.field (stTm i) "java/lang/String" "value" "[B")) (.int (Int32.ofNat (stLt i)))) ∧ ∀ j, j < stLt i → stL[(stX i).2.2.2.2.2.2 + j]? = some (Cond.eq (.elem (.field (stTm i) "java/lang/String" "value" "[B") (.int (Int32.ofNat j))) (.int ((stLx i).getD j 0))) := by decide +kernel
def stNc : List (List Nat) := [[], [0, 0, 495, 514, 457, 533, 552], [0, 476, 0, 515, 458, 534, 553], [0, 477, 496, 0, 459, 535, 554], [0, 475, 493, 512, 0, 531, 550], [0, 480, 499, 518, 462, 0, 557], [0, 482, 501, 520, 464, 539, 0]]
theorem st_nc : ∀ i, i < 7 → ∀ j, j < 7 → (1 ≤ i ∧ 1 ≤ j ∧ ¬ i = j) → stL[(stNc.getD i []).getD j 0]? = some (Cond.not (.castable (mXn i) (mXn j))) := by decide +kernel
theorem st_ref0 : stL[4]? = some (Cond.isRef (Term.static "java/lang/Throwable" "UNASSIGNED_STACK" "[Ljava/lang/StackTraceElement;")) := by decide +kernel
theorem st_ref1 : stL[5]? = some (Cond.isRef (Term.static "java/lang/Throwable" "SUPPRESSED_SENTINEL" "Ljava/util/List;")) := by decide +kernel
theorem st_ref2 : stL[107]? = some (Cond.isRef (Term.static "jdk/internal/util/Preconditions" "SIOOBE_FORMATTER" "Ljava/util/function/BiFunction;")) := by decide +kernel
theorem st_invA : stL[7]? = some (Cond.arrayOf (Term.static "ShareVault" "INVERSES" "[I") .int) := by decide +kernel
theorem st_invN : stL[8]? = some (Cond.eq (Term.length (Term.static "ShareVault" "INVERSES" "[I")) (Term.int 97)) := by decide +kernel
theorem st_woA : stL[319]? = some (Cond.arrayOf (Term.static "ShareVault$Commands" "WORDS" "[LShareVault$Word;") (.object "ShareVault$Word")) := by decide +kernel
theorem st_woN : stL[320]? = some (Cond.eq (Term.length (Term.static "ShareVault$Commands" "WORDS" "[LShareVault$Word;")) (Term.int 11)) := by decide +kernel
theorem st_swA : stL[334]? = some (Cond.arrayOf (Term.static "ShareVault$1" "$SwitchMap$ShareVault$Word" "[I") .int) := by decide +kernel
theorem st_swN : stL[335]? = some (Cond.eq (Term.length (Term.static "ShareVault$1" "$SwitchMap$ShareVault$Word" "[I")) (Term.int 11)) := by decide +kernel
theorem st_cs : stL[106]? = some (Cond.eq (Term.static "java/lang/String" "COMPACT_STRINGS" "Z") (Term.int 1)) := by decide +kernel
theorem st_doA : stL[112]? = some (Cond.arrayOf (Term.static "java/lang/Integer" "DigitOnes" "[B") .byte) := by decide +kernel
theorem st_doN : stL[113]? = some (Cond.eq (Term.length (Term.static "java/lang/Integer" "DigitOnes" "[B")) (Term.int 100)) := by decide +kernel
theorem st_dtA : stL[215]? = some (Cond.arrayOf (Term.static "java/lang/Integer" "DigitTens" "[B") .byte) := by decide +kernel
theorem st_dtN : stL[216]? = some (Cond.eq (Term.length (Term.static "java/lang/Integer" "DigitTens" "[B")) (Term.int 100)) := by decide +kernel
theorem st_m153 : stL[659]? = some (Cond.exactly (.string "ShareVault" 153) "java/lang/String") := by decide +kernel
theorem st_m173 : stL[1076]? = some (Cond.exactly (.string "ShareVault" 173) "java/lang/String") := by decide +kernel
theorem st_m236 : stL[774]? = some (Cond.exactly (.string "ShareVault" 236) "java/lang/String") := by decide +kernel
theorem st_m248 : stL[1108]? = some (Cond.exactly (.string "ShareVault" 248) "java/lang/String") := by decide +kernel
theorem st_m289 : stL[1133]? = some (Cond.exactly (.string "ShareVault" 289) "java/lang/String") := by decide +kernel
theorem st_m311 : stL[1004]? = some (Cond.exactly (.string "ShareVault" 311) "java/lang/String") := by decide +kernel
theorem st_m324 : stL[1032]? = some (Cond.exactly (.string "ShareVault" 324) "java/lang/String") := by decide +kernel
theorem st_m351 : stL[1057]? = some (Cond.exactly (.string "ShareVault" 351) "java/lang/String") := by decide +kernel
theorem st_m383 : stL[1156]? = some (Cond.exactly (.string "ShareVault" 383) "java/lang/String") := by decide +kernel
theorem st_m391 : stL[1181]? = some (Cond.exactly (.string "ShareVault" 391) "java/lang/String") := by decide +kernel
theorem st_m394 : stL[869]? = some (Cond.exactly (.string "ShareVault" 394) "java/lang/String") := by decide +kernel
theorem st_m396 : stL[895]? = some (Cond.exactly (.string "ShareVault" 396) "java/lang/String") := by decide +kernel
theorem st_m401 : stL[926]? = some (Cond.exactly (.string "ShareVault" 401) "java/lang/String") := by decide +kernel
theorem st_m409 : stL[632]? = some (Cond.exactly (.string "ShareVault" 409) "java/lang/String") := by decide +kernel
theorem st_m414 : stL[843]? = some (Cond.exactly (.string "ShareVault" 414) "java/lang/String") := by decide +kernel
theorem st_m416 : stL[751]? = some (Cond.exactly (.string "ShareVault" 416) "java/lang/String") := by decide +kernel
theorem st_m421 : stL[726]? = some (Cond.exactly (.string "ShareVault" 421) "java/lang/String") := by decide +kernel
theorem st_m423 : stL[599]? = some (Cond.exactly (.string "ShareVault" 423) "java/lang/String") := by decide +kernel
theorem st_m428 : stL[696]? = some (Cond.exactly (.string "ShareVault" 428) "java/lang/String") := by decide +kernel
theorem st_m430 : stL[813]? = some (Cond.exactly (.string "ShareVault" 430) "java/lang/String") := by decide +kernel
/-- what equals a term that is a reference is that reference-/
theorem st_eqr {args : Array Value} {s : State} {t u : Term} {a : Nat} (h : (Cond.eq t u).before args s = true) (hu : u.eval args s none [] s = some (.ref a)) : t.eval args s none [] s = some (.ref a) := by
  cases hv : t.eval args s none [] s with
  | none => simp [Cond.before, Cond.holds, Cond.value, hv, hu] at h
  | some w =>
    simp only [Cond.before, Cond.holds, Cond.value, hv, hu] at h
    cases w <;> simp_all
theorem st_lf : ∀ k, k < 11 → stIx (mLt.getD k 0) ∧ stIx (mFm.getD k 0) := by decide
theorem st_tl : ∀ i, i < 39 → stLt i < 2 ^ 31 := by decide
/-- an array of no place is an array of any-/
theorem st_T0 {ty : FieldType} {t : Nat} {f g : Nat → Value} {A : Nat → Prop} {U : State} {H : Heap} (h : va_T ty t 0 f A U H) : va_T ty t 0 g A U H := by
  obtain ⟨cell, h1, h2, h3, h4, h5, -, h7⟩ := h
  exact ⟨cell, h1, h2, h3, h4, h5, fun j hj => absurd hj (Nat.not_lt_zero j), h7⟩
/-- the texts and their bytes-/
theorem st_texts {args : Array Value} {s : State} {A : Nat → Prop} (hn : ∀ c ∈ stL, c.before args s = true) (hA : ∀ a : Nat, a < s.heap.size → ¬ A a) : ∃ adK adV : Nat → Nat, ∀ i : Nat, stIx i → (stTm i).eval args s none [] s = some (.ref (adK i)) ∧ va_O "java/lang/String" (adK i) A s s.heap ∧ va_OF "java/lang/String" "coder" "B" (.int 0) (adK i) A s s.heap ∧ va_OF "java/lang/String" "value" "[B" (.ref (adV i)) (adK i) A s s.heap ∧ va_T .byte (adV i) (stLt i) (fun j => .int ((stLx i).getD j 0)) A s s.heap := by
  have h0 : ∀ i : Nat, ∃ q : Nat × Nat, stIx i → (stTm i).eval args s none [] s = some (.ref q.1) ∧ va_O "java/lang/String" q.1 A s s.heap ∧ va_OF "java/lang/String" "coder" "B" (.int 0) q.1 A s s.heap ∧ va_OF "java/lang/String" "value" "[B" (.ref q.2) q.1 A s s.heap ∧ va_T .byte q.2 (stLt i) (fun j => .int ((stLx i).getD j 0)) A s s.heap := by
    intro i
    by_cases hi : stIx i
    · obtain ⟨hex, hco, har, hle, hel⟩ := st_tx i (by omega) hi
      obtain ⟨a, c, cA, kA, q1, q2, q3, q4, q5, q6, -⟩ := Cond.exactly_spec (args := args) (first := s) (o := none) (s := s) (idx := []) (t := stTm i) (cls := "java/lang/String") (st_in hn hex)
      obtain ⟨t, ht, hT⟩ := va_Tof (f := fun j => .int ((stLx i).getD j 0)) (A := A) (st_tl i (by omega)) (st_in hn har) (va_eqt (st_in hn hle)) (fun j hj => va_eqt (st_in hn (hel j hj))) hA
      exact ⟨(a, t), fun _ => ⟨q1, ⟨cA, q3, q5, by rw [q6]; exact q2, hA a (Array.getElem?_eq_some_iff.mp q3).1⟩, vk_OFof q1 (va_eqt (st_in hn hco)) hA, vk_OFof q1 ht hA, hT⟩⟩
    · exact ⟨(0, 0), fun h => absurd h hi⟩
  obtain ⟨ad, had⟩ := Classical.axiomOfChoice h0
  exact ⟨fun i => (ad i).1, fun i => (ad i).2, had⟩
/-- the constants of Word-/
theorem st_consts {args : Array Value} {s : State} {A : Nat → Prop} {at1 : Nat → Nat} (hn : ∀ c ∈ stL, c.before args s = true) (hA : ∀ a : Nat, a < s.heap.size → ¬ A a) (htx : ∀ i : Nat, stIx i → (stTm i).eval args s none [] s = some (.ref (at1 i))) :
    ∃ ac : Nat → Nat, ∀ k : Nat, k < 11 → (stW k).eval args s none [] s = some (.ref (ac k)) ∧ va_O "ShareVault$Word" (ac k) A s s.heap ∧ va_OF "java/lang/Enum" "ordinal" "I" (.int (Int32.ofNat k)) (ac k) A s s.heap ∧ va_OF "ShareVault$Word" "letters" "Ljava/lang/String;" (.ref (at1 (mLt.getD k 0))) (ac k) A s s.heap ∧ va_OF "ShareVault$Word" "form" "Ljava/lang/String;" (.ref (at1 (mFm.getD k 0))) (ac k) A s s.heap := by
  have h0 : ∀ k : Nat, ∃ q : Nat, k < 11 → (stW k).eval args s none [] s = some (.ref q) ∧ va_O "ShareVault$Word" q A s s.heap ∧ va_OF "java/lang/Enum" "ordinal" "I" (.int (Int32.ofNat k)) q A s s.heap ∧ va_OF "ShareVault$Word" "letters" "Ljava/lang/String;" (.ref (at1 (mLt.getD k 0))) q A s s.heap ∧ va_OF "ShareVault$Word" "form" "Ljava/lang/String;" (.ref (at1 (mFm.getD k 0))) q A s s.heap := by
    intro k
    by_cases hk : k < 11
    · obtain ⟨hex, hor, hle, hfo⟩ := st_co k hk
      obtain ⟨a, c, cA, kA, q1, q2, q3, q4, q5, q6, -⟩ := Cond.exactly_spec (args := args) (first := s) (o := none) (s := s) (idx := []) (t := stW k) (cls := "ShareVault$Word") (st_in hn hex)
      exact ⟨a, fun _ => ⟨q1, ⟨cA, q3, q5, by rw [q6]; exact q2, hA a (Array.getElem?_eq_some_iff.mp q3).1⟩, vk_OFof q1 (va_eqt (st_in hn hor)) hA, vk_OFof q1 (st_eqr (st_in hn hle) (htx _ (st_lf k hk).1)) hA, vk_OFof q1 (st_eqr (st_in hn hfo) (htx _ (st_lf k hk).2)) hA⟩⟩
    · exact ⟨0, fun h => absurd h hk⟩
  obtain ⟨ac, hac⟩ := Classical.axiomOfChoice h0
  exact ⟨ac, hac⟩
/-- a message: a String constant that the tables know-/
theorem st_msg {args : Array Value} {s : State} {own tx : String} {k : Nat} (h1 : (Cond.stringRef own k tx).before args s = true) (h2 : (Cond.exactly (.string own k) "java/lang/String").before args s = true) : ∃ a, vk_R own k tx a s := by
  obtain ⟨a, c, cA, kA, q1, -⟩ := Cond.exactly_spec (args := args) (first := s) (o := none) (s := s) (idx := []) (t := .string own k) (cls := "java/lang/String") h2
  exact ⟨a, vk_R.of h1 q1⟩
/-- the classes of arrays-/
theorem st_ac {args : Array Value} {s : State} {ty : FieldType} (h : (Cond.arrayClass ty).before args s = true) (hra : ∀ cA : ClassId, s.vm.findClass ("[" ++ ty.toString) = some cA → va_RA s cA ty) : ∃ cA : ClassId, ArrOfT s cA ty ∧ va_RA s cA ty := by
  obtain ⟨c, k, comp, h1, h2, h3⟩ := Cond.arrayClass_spec h
  exact ⟨c, fun n z => ⟨(fun k h => by cases h), k, h2, comp, h3⟩, hra c h1⟩
theorem st_ao {s : State} {C : String} (h : va_AO C s) : ∃ cA : ClassId, ArrOfT s cA (.object C) ∧ va_RA s cA (.object C) := by
  obtain ⟨comp, c, k, h1, h2, h3, h4, h5⟩ := Cond.arrayOver_spec h
  exact ⟨c, fun n z => ⟨(fun k h => by cases h), k, h3, comp, h4⟩, k, comp, h3, h4, h1, h5⟩
theorem st_aa {s : State} {t : FieldType} {a : Array Value} (h : (Cond.arrayOver (.array t)).before a s = true) : ∃ cA : ClassId, ArrOfT s cA (.array t) ∧ va_RA s cA (.array t) := by
  have h : (Cond.arrayOver (.array t)).holds a s none s [] = true := h
  simp only [Cond.holds, Cond.value, beq_iff_eq] at h
  cases hc : s.vm.findClass (FieldType.array t).toString with
  | none => simp [hc] at h
  | some comp =>
    simp only [hc, Option.bind_some, Option.bind_eq_some_iff, Option.map_eq_some_iff] at h
    obtain ⟨c, hi, k, hk, hb⟩ := h
    cases hkind : k.kind with
    | array component ty =>
      rw [hkind] at hb
      simp at hb
      exact ⟨c, fun n z => ⟨(fun k h => by cases h), k, hk, component, by rw [hkind, hb.1]⟩, hb.2⟩
    | _ => rw [hkind] at hb; simp at hb
theorem st_arr {args : Array Value} {s : State} (h0 : (Cond.arrayClass .int).before args s = true) (h1 : (Cond.arrayClass .boolean).before args s = true) (h2 : (Cond.arrayClass .char).before args s = true) (hT : gT s) :
    ∃ ca : Nat → ClassId, ∀ (f : Nat → Nat → Nat) (g : va_G × ((Nat → ClassId) × (Nat → Nat → Nat))), g.2.1 = ca → ∀ (k : Nat) (q : ClassId × FieldType), (mTys (f, g))[k]? = some q → ArrOfT s q.1 q.2 ∧ va_RA s q.1 q.2 := by
  obtain ⟨a0, r0⟩ := st_ac h0 (fun _ h => h)
  obtain ⟨a1, r1⟩ := st_ac h1 (fun _ h => h)
  obtain ⟨a2, r2⟩ := st_ac h2 (fun _ h => h)
  obtain ⟨a3, r3⟩ := st_ao hT.2.1
  obtain ⟨a4, r4⟩ := st_aa hT.2.2.2
  obtain ⟨a5, r5⟩ := st_ao hT.2.2.1
  refine ⟨fun k => ([a0, a1, a2, a3, a4, a5] : List ClassId).getD k 0, fun f g hg k q hq => ?_⟩
  unfold mTys at hq
  rw [hg] at hq
  match k, hq with
  | 0, hq => cases hq; exact r0
  | 1, hq => cases hq; exact r1
  | 2, hq => cases hq; exact r2
  | 3, hq => cases hq; exact r3
  | 4, hq => cases hq; exact r4
  | 5, hq => cases hq; exact r5
  | k + 6, hq => simp at hq
/-- the addresses of what nobody writes -/
def stAd (ac at1 at2 : Nat → Nat) (z0 z1 z2 b d1 d2 n : Nat) (xs : Nat → Int32) : Nat → Nat → Nat := fun g i => match g with
  | 0 => ac i
  | 1 => at1 i
  | 2 => at2 i
  | 3 => if i = 0 then z0 else if i = 1 then z1 else if i = 2 then z2 else if i = 3 then b else if i = 4 then d1 else d2
  | 4 => if i = 0 then n else 0
  | 5 => (xs i).toBitVec.toNat
  | _ => 0
theorem i32_nat (x : Int32) : Int32.ofNat x.toBitVec.toNat = x := by
  apply Int32.toBitVec_inj.mp
  show BitVec.ofNat 32 x.toBitVec.toNat = x.toBitVec
  simp
set_option maxRecDepth 100000 in
/-- the start's world -/
theorem l_start {args : Array Value} {s : State} (hts : ∀ w ∈ lw_tbl, w.before args s = true) (hgv : (Jvm.Cond.and given_1 narrow_1).before args s = true) {b n : Nat} {xs : Nat → Int32} (hX : va_X b n xs s s.heap) (hbl : b < s.heap.size) : ∃ w2 : va_G × ((Nat → ClassId) × (Nat → Nat → Nat)), (∀ f : Nat → Nat → Nat, va_K w2.1 mCl (mTys (f, w2)) s) ∧ gT s ∧ (∀ f : Nat → Nat → Nat, mSt (f, w2) (fun q => s.heap.size ≤ q) s s.heap) ∧ ∀ (f : Nat → Nat → Nat) A U H, mSt (f, w2) A U H → va_T .int b n (fun k => .int (xs k)) A U H := by
  have hn : ∀ c ∈ stL, c.before args s = true := flat_of_before _ hgv
  have hT : gT s := ⟨mT.ofw hts, va_AO.of (hts _ (tin1 (List.mem_of_getElem? (l := tables_1_1) (i := 214) rfl))), va_AO.of (hts _ (tin2 (List.mem_of_getElem? (l := tables_1_2) (i := 14) rfl))), over_moved (Vm.Alike.refl s.vm) (hts _ (tin1 (List.mem_of_getElem? (l := tables_1_1) (i := 236) rfl)))⟩
  obtain ⟨ca, hca⟩ := st_arr (hts _ (tin1 (List.mem_of_getElem? (l := tables_1_1) (i := 91) rfl))) (hts _ (tin1 (List.mem_of_getElem? (l := tables_1_1) (i := 161) rfl))) (hts _ (tin1 (List.mem_of_getElem? (l := tables_1_1) (i := 185) rfl))) hT
  obtain ⟨c1, i1, k1⟩ := u_known (C := RX1) (T := TX1) (N := 8) (n := 8) hts (fun w hw => (lyX1 w hw).1) (hts _ (tin1 (List.mem_of_getElem? (l := tables_1_1) (i := 119) rfl)))
  obtain ⟨c2, i2, k2⟩ := u_known (C := RX2) (T := TX2) (N := 7) (n := 7) hts (fun w hw => (lyX2 w hw).1) (hts _ (tin2 (List.mem_of_getElem? (l := tables_1_2) (i := 8) rfl)))
  obtain ⟨c3, i3, k3⟩ := u_known (C := RX3) (T := TX3) (N := 4) (n := 4) hts (fun w hw => (lyX3 w hw).1) (hts _ (tin1 (List.mem_of_getElem? (l := tables_1_1) (i := 93) rfl)))
  obtain ⟨c4, i4, k4⟩ := u_known (C := RX4) (T := TX4) (N := 3) (n := 3) hts (fun w hw => (lyX4 w hw).1) (hts _ (tin1 (List.mem_of_getElem? (l := tables_1_1) (i := 208) rfl)))
  obtain ⟨c5, i5, k5⟩ := u_known (C := RX5) (T := TX5) (N := 4) (n := 4) hts (fun w hw => (lyX5 w hw).1) (hts _ (tin1 (List.mem_of_getElem? (l := tables_1_1) (i := 163) rfl)))
  obtain ⟨c6, i6, k6⟩ := u_known (C := RX6) (T := TX6) (N := 7) (n := 7) hts (fun w hw => (lyX6 w hw).1) (hts _ (tin1 (List.mem_of_getElem? (l := tables_1_1) (i := 49) rfl)))
  obtain ⟨c7, i7, k7⟩ := u_known (C := RX7) (T := TX7) (N := 2) (n := 2) hts (fun w hw => (lyX7 w hw).1) (hts _ (tin2 (List.mem_of_getElem? (l := tables_1_2) (i := 43) rfl)))
  obtain ⟨c8, i8, k8⟩ := u_known (C := RX8) (T := TX8) (N := 3) (n := 3) hts (fun w hw => (lyX8 w hw).1) (hts _ (tin1 (List.mem_of_getElem? (l := tables_1_1) (i := 230) rfl)))
  obtain ⟨c9, i9, k9⟩ := u_known (C := RX9) (T := TX9) (N := 5) (n := 5) hts (fun w hw => (lyX9 w hw).1) (hts _ (tin1 (List.mem_of_getElem? (l := tables_1_1) (i := 43) rfl)))
  obtain ⟨c11, i11, k11⟩ := u_known (C := RX11) (T := TX11) (N := 12) (n := 12) hts (fun w hw => (lyX11 w hw).1) (hts _ (tin1 (List.mem_of_getElem? (l := tables_1_1) (i := 35) rfl)))
  have hKn : ∀ (k : Nat) (q : vw_C), mCl[k]? = some q → u_Kn s q.1 q.2.1 q.2.2 (([c1, c2, c3, c4, c5, c6, c7, c8, c9, c11] : List ClassId).getD k 0) (([i1, i2, i3, i4, i5, i6, i7, i8, i9, i11] : List (Nat → Nat)).getD k (fun _ => 0)) := by
    intro k q hq
    match k, hq with
    | 0, hq => cases hq; exact k1
    | 1, hq => cases hq; exact k2
    | 2, hq => cases hq; exact k3
    | 3, hq => cases hq; exact k4
    | 4, hq => cases hq; exact k5
    | 5, hq => cases hq; exact k6
    | 6, hq => cases hq; exact k7
    | 7, hq => cases hq; exact k8
    | 8, hq => cases hq; exact k9
    | 9, hq => cases hq; exact k11
    | k + 10, hq => simp [mCl] at hq
  have hA : ∀ a : Nat, a < s.heap.size → ¬ (fun q : Nat => s.heap.size ≤ q) a := fun a h => Nat.not_le.mpr h
  obtain ⟨at1, at2, htx⟩ := st_texts hn hA
  obtain ⟨ac, hac⟩ := st_consts hn hA (fun i hi => (htx i hi).1)
  obtain ⟨z0, e0, T0⟩ := va_Tof (tm := .static "ShareVault" "INVERSES" "[I") (N := 97) (f := fun k => .int (mInv.getD k 0)) (by decide) (st_in hn st_invA) (va_eqt (st_in hn st_invN)) (fun j hj => va_eqt (st_in hn (st_inv j hj))) hA
  obtain ⟨z1, e1, T1⟩ := va_Tof (tm := .static "ShareVault$Commands" "WORDS" "[LShareVault$Word;") (N := 11) (f := fun k => .ref (ac k)) (by decide) (st_in hn st_woA) (va_eqt (st_in hn st_woN)) (fun j hj => st_eqr (st_in hn (st_wo j hj)) (hac j hj).1) hA
  obtain ⟨z2, e2, T2⟩ := va_Tof (tm := .static "ShareVault$1" "$SwitchMap$ShareVault$Word" "[I") (N := 11) (f := fun k => .int (mSw.getD k 0)) (by decide) (st_in hn st_swA) (va_eqt (st_in hn st_swN)) (fun j hj => va_eqt (st_in hn (st_sw j hj))) hA
  obtain ⟨d1, e3, T3⟩ := va_Tof (tm := .static "java/lang/Integer" "DigitOnes" "[B") (N := 100) (f := fun k => .int (Int32.ofNat (48 + k % 10))) (by decide) (st_in hn st_doA) (va_eqt (st_in hn st_doN)) (fun j hj => va_eqt (st_in hn (st_do j hj))) hA
  obtain ⟨d2, e4, T4⟩ := va_Tof (tm := .static "java/lang/Integer" "DigitTens" "[B") (N := 100) (f := fun k => .int (Int32.ofNat (48 + k / 10))) (by decide) (st_in hn st_dtA) (va_eqt (st_in hn st_dtN)) (fun j hj => va_eqt (st_in hn (st_dt j hj))) hA
  have hxs : (fun k => Value.int (Int32.ofNat (xs k).toBitVec.toNat)) = fun k => Value.int (xs k) := funext fun k => by rw [i32_nat]
  have TX : va_T .int b n (fun k => .int (Int32.ofNat (xs k).toBitVec.toNat)) (fun q => s.heap.size ≤ q) s s.heap := by
    rw [hxs]
    obtain ⟨scr, q1, q2, q3, q4, q5⟩ := hX
    exact ⟨scr, q1, q2, q3, by omega, (by rw [q4]), q5, Nat.not_le.mpr hbl⟩
  refine ⟨((fun k => ([c1, c2, c3, c4, c5, c6, c7, c8, c9, c11] : List ClassId).getD k 0, fun k => ([i1, i2, i3, i4, i5, i6, i7, i8, i9, i11] : List (Nat → Nat)).getD k (fun _ => 0)), (ca, stAd ac at1 at2 z0 z1 z2 b d1 d2 n xs)), fun f => ⟨hKn, hca f _ rfl⟩, hT, fun f => ⟨⟨?_, ?_⟩, ⟨?_, T0⟩, ⟨?_, T1⟩, ⟨?_, T2⟩, fun k hk => ?_, fun i hi => ?_, ?_, ?_, ?_, fun i j h1 h2 h3 h4 h5 => va_Nc.of (st_in hn (st_nc i (by omega) j (by omega) ⟨h1, h3, h5⟩)), ?_, fun i hi => ?_, TX, ⟨?_, T3⟩, ⟨?_, T4⟩, fun h => absurd (show (0 : Nat) = 1 from h) (by decide), fun h => absurd (show (0 : Nat) = 1 from h) (by decide)⟩, fun f A U H h => ?_⟩
  · exact vx_Zqof (hts _ (tin2 (List.mem_of_getElem? (l := tables_1_2) (i := 177) rfl))) (hts _ (tin1 (List.mem_of_getElem? (l := tables_1_1) (i := 11) rfl))) (st_in hn st_ref0) hA
  · exact vx_Zqof (hts _ (tin2 (List.mem_of_getElem? (l := tables_1_2) (i := 179) rfl))) (hts _ (tin1 (List.mem_of_getElem? (l := tables_1_1) (i := 11) rfl))) (st_in hn st_ref1) hA
  · exact va_Zref (hts _ (tin3 (List.mem_of_getElem? (l := tables_1_3) (i := 75) rfl))) (hts _ (tin1 (List.mem_of_getElem? (l := tables_1_1) (i := 1) rfl))) e0 hA
  · exact va_Zref (hts _ (tin6 (List.mem_of_getElem? (l := tables_1_6) (i := 84) rfl))) (hts _ (tin1 (List.mem_of_getElem? (l := tables_1_1) (i := 9) rfl))) e1 hA
  · exact va_Zref (hts _ (tin6 (List.mem_of_getElem? (l := tables_1_6) (i := 130) rfl))) (hts _ (tin1 (List.mem_of_getElem? (l := tables_1_1) (i := 32) rfl))) e2 hA
  · obtain ⟨-, q2, q3, q4, q5⟩ := hac k hk
    exact ⟨q2, q3, q4, q5⟩
  · obtain ⟨-, q2, q3, q4, q5⟩ := htx i (Or.inl hi)
    have e1 : stLt i = mTl.getD i 0 := if_pos hi.2
    have e2 : stLx i = mTx.getD i [] := if_pos hi.2
    rw [e1, e2] at q5
    exact ⟨q2, q3, q4, q5⟩
  · exact va_Zof (hts _ (tin5 (List.mem_of_getElem? (l := tables_1_5) (i := 17) rfl))) (hts _ (tin1 (List.mem_of_getElem? (l := tables_1_1) (i := 17) rfl))) (va_eqi (st_in hn st_cs)) hA
  · exact List.forall_mem_cons.mpr ⟨vk_R.of (hts _ (tin5 (List.mem_of_getElem? (l := tables_1_5) (i := 38) rfl))) (htx 33 (by decide)).1, List.forall_mem_cons.mpr ⟨vk_R.of (hts _ (tin5 (List.mem_of_getElem? (l := tables_1_5) (i := 180) rfl))) (htx 34 (by decide)).1, List.forall_mem_cons.mpr ⟨vk_R.of (hts _ (tin5 (List.mem_of_getElem? (l := tables_1_5) (i := 181) rfl))) (htx 35 (by decide)).1, List.forall_mem_cons.mpr ⟨vk_R.of (hts _ (tin6 (List.mem_of_getElem? (l := tables_1_6) (i := 5) rfl))) (htx 36 (by decide)).1, List.forall_mem_cons.mpr ⟨vk_R.of (hts _ (tin6 (List.mem_of_getElem? (l := tables_1_6) (i := 6) rfl))) (htx 37 (by decide)).1, List.forall_mem_cons.mpr ⟨vk_R.of (hts _ (tin6 (List.mem_of_getElem? (l := tables_1_6) (i := 7) rfl))) (htx 38 (by decide)).1, fun _ h => nomatch h⟩⟩⟩⟩⟩⟩
  · exact List.forall_mem_cons.mpr ⟨st_msg (hts _ (tin3 (List.mem_of_getElem? (l := tables_1_3) (i := 45) rfl))) (st_in hn st_m153), List.forall_mem_cons.mpr ⟨st_msg (hts _ (tin7 (List.mem_of_getElem? (l := tables_1_7) (i := 7) rfl))) (st_in hn st_m173), List.forall_mem_cons.mpr ⟨st_msg (hts _ (tin3 (List.mem_of_getElem? (l := tables_1_3) (i := 156) rfl))) (st_in hn st_m236), List.forall_mem_cons.mpr ⟨st_msg (hts _ (tin7 (List.mem_of_getElem? (l := tables_1_7) (i := 52) rfl))) (st_in hn st_m248), List.forall_mem_cons.mpr ⟨st_msg (hts _ (tin7 (List.mem_of_getElem? (l := tables_1_7) (i := 112) rfl))) (st_in hn st_m289), List.forall_mem_cons.mpr ⟨st_msg (hts _ (tin6 (List.mem_of_getElem? (l := tables_1_6) (i := 53) rfl))) (st_in hn st_m311), List.forall_mem_cons.mpr ⟨st_msg (hts _ (tin6 (List.mem_of_getElem? (l := tables_1_6) (i := 124) rfl))) (st_in hn st_m324), List.forall_mem_cons.mpr ⟨st_msg (hts _ (tin6 (List.mem_of_getElem? (l := tables_1_6) (i := 157) rfl))) (st_in hn st_m351), List.forall_mem_cons.mpr ⟨st_msg (hts _ (tin7 (List.mem_of_getElem? (l := tables_1_7) (i := 152) rfl))) (st_in hn st_m383), List.forall_mem_cons.mpr ⟨st_msg (hts _ (tin7 (List.mem_of_getElem? (l := tables_1_7) (i := 164) rfl))) (st_in hn st_m391), List.forall_mem_cons.mpr ⟨st_msg (hts _ (tin4 (List.mem_of_getElem? (l := tables_1_4) (i := 40) rfl))) (st_in hn st_m394), List.forall_mem_cons.mpr ⟨st_msg (hts _ (tin4 (List.mem_of_getElem? (l := tables_1_4) (i := 41) rfl))) (st_in hn st_m396), List.forall_mem_cons.mpr ⟨st_msg (hts _ (tin4 (List.mem_of_getElem? (l := tables_1_4) (i := 60) rfl))) (st_in hn st_m401), List.forall_mem_cons.mpr ⟨st_msg (hts _ (tin3 (List.mem_of_getElem? (l := tables_1_3) (i := 30) rfl))) (st_in hn st_m409), List.forall_mem_cons.mpr ⟨st_msg (hts _ (tin3 (List.mem_of_getElem? (l := tables_1_3) (i := 215) rfl))) (st_in hn st_m414), List.forall_mem_cons.mpr ⟨st_msg (hts _ (tin3 (List.mem_of_getElem? (l := tables_1_3) (i := 129) rfl))) (st_in hn st_m416), List.forall_mem_cons.mpr ⟨st_msg (hts _ (tin3 (List.mem_of_getElem? (l := tables_1_3) (i := 118) rfl))) (st_in hn st_m421), List.forall_mem_cons.mpr ⟨st_msg (hts _ (tin2 (List.mem_of_getElem? (l := tables_1_2) (i := 195) rfl))) (st_in hn st_m423), List.forall_mem_cons.mpr ⟨st_msg (hts _ (tin3 (List.mem_of_getElem? (l := tables_1_3) (i := 61) rfl))) (st_in hn st_m428), List.forall_mem_cons.mpr ⟨st_msg (hts _ (tin3 (List.mem_of_getElem? (l := tables_1_3) (i := 178) rfl))) (st_in hn st_m430), fun _ h => nomatch h⟩⟩⟩⟩⟩⟩⟩⟩⟩⟩⟩⟩⟩⟩⟩⟩⟩⟩⟩⟩
  · exact va_Zqof (hts _ (tin5 (List.mem_of_getElem? (l := tables_1_5) (i := 99) rfl))) (hts _ (tin1 (List.mem_of_getElem? (l := tables_1_1) (i := 27) rfl))) (st_in hn st_ref2) hA
  · obtain ⟨-, q2, q3, q4, q5⟩ := htx (33 + i) (Or.inr ⟨by omega, by omega⟩)
    have e1 : stLt (33 + i) = mLl.getD i 0 := (if_neg (by omega)).trans (by rw [Nat.add_sub_cancel_left])
    have e2 : stLx (33 + i) = mLx.getD i [] := (if_neg (by omega)).trans (by rw [Nat.add_sub_cancel_left])
    rw [e1, e2] at q5
    exact ⟨q2, q3, q4, q5⟩
  · exact va_Zref (hts _ (tin5 (List.mem_of_getElem? (l := tables_1_5) (i := 169) rfl))) (hts _ (tin1 (List.mem_of_getElem? (l := tables_1_1) (i := 30) rfl))) e3 hA
  · exact va_Zref (hts _ (tin5 (List.mem_of_getElem? (l := tables_1_5) (i := 171) rfl))) (hts _ (tin1 (List.mem_of_getElem? (l := tables_1_1) (i := 30) rfl))) e4 hA
  · have h1 : va_T .int b n (fun k => .int (Int32.ofNat (xs k).toBitVec.toNat)) A U H := h.2.2.2.2.2.2.2.2.2.2.2.2.1
    rw [hxs] at h1
    exact h1
