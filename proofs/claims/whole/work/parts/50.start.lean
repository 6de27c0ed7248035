/-! THE START: what the Statement gives of it, as the memory's world asks it-/
def stL : List Cond := flatC (Jvm.Cond.and given_1 narrow_1)
def stTx : List (String × Nat × Nat) := [("ShareVaultModel", 235, 1092), ("ShareVaultModel", 241, 1102), ("ShareVaultModel", 243, 1083), ("ShareVaultModel", 245, 1058), ("ShareVaultModel", 247, 1150), ("ShareVaultModel", 249, 1050), ("ShareVaultModel", 251, 1063), ("ShareVaultModel", 253, 1073), ("ShareVaultModel", 261, 1106), ("ShareVaultModel", 263, 1115), ("ShareVaultModel", 265, 1124), ("ShareVaultModel", 267, 1132), ("ShareVaultModel", 269, 1141), ("ShareVault$Word", 64, 1158), ("ShareVault$Word", 66, 1169), ("ShareVault$Word", 72, 1174), ("ShareVault$Word", 74, 1182), ("ShareVault$Word", 77, 1194), ("ShareVault$Word", 79, 1203), ("ShareVault$Word", 82, 1211), ("ShareVault$Word", 84, 1219), ("ShareVault$Word", 87, 1225), ("ShareVault$Word", 90, 1233), ("ShareVault$Word", 93, 1242), ("ShareVault$Word", 96, 1252), ("ShareVault$Word", 98, 1261), ("ShareVault$Word", 101, 1269), ("ShareVault$Word", 104, 1277), ("ShareVault$Word", 106, 1284), ("ShareVault$Word", 109, 1292), ("ShareVault$Word", 111, 1301)]
def stTm (i : Nat) : Term := .string (stTx.getD i ("", 0, 0)).1 (stTx.getD i ("", 0, 0)).2.1
def stOf (i : Nat) : Nat := (stTx.getD i ("", 0, 0)).2.2
def stNm : List (String × Nat) := [("HOLDER", 141), ("SEAL", 145), ("SHARE", 150), ("GIVE", 156), ("BACK", 163), ("OPEN", 171), ("CLOSE", 180), ("GUARD", 190), ("TURN", 201), ("HUM", 213), ("WAIT", 226)]
def stW (k : Nat) : Term := .static "ShareVault$Word" (stNm.getD k ("", 0)).1 "LShareVault$Word;"
def stWo (k : Nat) : Nat := (stNm.getD k ("", 0)).2
theorem st_in {args : Array Value} {s : State} (hn : ∀ c ∈ stL, c.before args s = true) {i : Nat} {c : Cond} (h : stL[i]? = some c) : c.before args s = true := hn c (List.mem_of_getElem? h)
theorem st_inv : ∀ j, j < 97 → stL[7 + j]? = some (Cond.eq (.elem (.static "ShareVault" "INVERSES" "[I") (.int (Int32.ofNat j))) (.int (mInv.getD j 0))) := by decide +kernel
theorem st_sw : ∀ j, j < 11 → stL[130 + j]? = some (Cond.eq (.elem (.static "ShareVault$1" "$SwitchMap$ShareVault$Word" "[I") (.int (Int32.ofNat j))) (.int (mSw.getD j 0))) := by decide +kernel
theorem st_wo : ∀ j, j < 11 → stL[111 + j]? = some (Cond.eq (.elem (.static "ShareVault$Commands" "WORDS" "[LShareVault$Word;") (.int (Int32.ofNat j))) (stW j)) := by decide +kernel
theorem st_co : ∀ k, k < 11 → stL[stWo k]? = some (Cond.exactly (stW k) "ShareVault$Word") ∧ stL[stWo k + 1]? = some (Cond.eq (.field (stW k) "java/lang/Enum" "ordinal" "I") (.int (Int32.ofNat k))) ∧ stL[stWo k + 2]? = some (Cond.eq (.field (stW k) "ShareVault$Word" "letters" "Ljava/lang/String;") (stTm (mLt.getD k 0))) ∧ stL[stWo k + 3]? = some (Cond.eq (.field (stW k) "ShareVault$Word" "form" "Ljava/lang/String;") (stTm (mFm.getD k 0))) := by decide +kernel
theorem st_tx : ∀ i, i < 31 → stL[stOf i]? = some (Cond.exactly (stTm i) "java/lang/String") ∧ stL[stOf i + 1]? = some (Cond.eq (.field (stTm i) "java/lang/String" "coder" "B") (.int 0)) ∧ stL[stOf i + 2]? = some (Cond.arrayOf (.field (stTm i) "java/lang/String" "value" "[B") .byte) ∧ stL[stOf i + 3]? = some (Cond.eq (.length (.field (stTm i) "java/lang/String" "value" "[B")) (.int (Int32.ofNat (mTl.getD i 0)))) ∧ ∀ j, j < mTl.getD i 0 → stL[stOf i + 4 + j]? = some (Cond.eq (.elem (.field (stTm i) "java/lang/String" "value" "[B") (.int (Int32.ofNat j))) (.int ((mTx.getD i []).getD j 0))) := by decide +kernel
def stNc : List (List Nat) := [[], [0, 0, 269, 251, 304, 340, 322], [0, 287, 0, 252, 305, 341, 323], [0, 288, 270, 0, 306, 342, 324], [0, 289, 272, 254, 0, 344, 326], [0, 291, 274, 256, 309, 0, 327], [0, 290, 273, 255, 308, 345, 0]]
theorem st_nc : ∀ i, i < 7 → ∀ j, j < 7 → (1 ≤ i ∧ 1 ≤ j ∧ ¬ i = j) → stL[(stNc.getD i []).getD j 0]? = some (Cond.not (.castable (mXn i) (mXn j))) := by decide +kernel
theorem st_ref0 : stL[104]? = some (Cond.isRef (Term.static "java/lang/Throwable" "UNASSIGNED_STACK" "[Ljava/lang/StackTraceElement;")) := by decide +kernel
theorem st_ref1 : stL[105]? = some (Cond.isRef (Term.static "java/lang/Throwable" "SUPPRESSED_SENTINEL" "Ljava/util/List;")) := by decide +kernel
theorem st_ref2 : stL[123]? = some (Cond.isRef (Term.static "jdk/internal/util/Preconditions" "SIOOBE_FORMATTER" "Ljava/util/function/BiFunction;")) := by decide +kernel
theorem st_invA : stL[5]? = some (Cond.arrayOf (Term.static "ShareVault" "INVERSES" "[I") .int) := by decide +kernel
theorem st_invN : stL[6]? = some (Cond.eq (Term.length (Term.static "ShareVault" "INVERSES" "[I")) (Term.int 97)) := by decide +kernel
theorem st_woA : stL[108]? = some (Cond.arrayOf (Term.static "ShareVault$Commands" "WORDS" "[LShareVault$Word;") (.object "ShareVault$Word")) := by decide +kernel
theorem st_woN : stL[109]? = some (Cond.eq (Term.length (Term.static "ShareVault$Commands" "WORDS" "[LShareVault$Word;")) (Term.int 11)) := by decide +kernel
theorem st_swA : stL[128]? = some (Cond.arrayOf (Term.static "ShareVault$1" "$SwitchMap$ShareVault$Word" "[I") .int) := by decide +kernel
theorem st_swN : stL[129]? = some (Cond.eq (Term.length (Term.static "ShareVault$1" "$SwitchMap$ShareVault$Word" "[I")) (Term.int 11)) := by decide +kernel
theorem st_cs : stL[122]? = some (Cond.eq (Term.static "java/lang/String" "COMPACT_STRINGS" "Z") (Term.int 1)) := by decide +kernel
theorem st_m153 : stL[527]? = some (Cond.exactly (.string "ShareVault" 153) "java/lang/String") := by decide +kernel
theorem st_m173 : stL[594]? = some (Cond.exactly (.string "ShareVault" 173) "java/lang/String") := by decide +kernel
theorem st_m236 : stL[700]? = some (Cond.exactly (.string "ShareVault" 236) "java/lang/String") := by decide +kernel
theorem st_m248 : stL[739]? = some (Cond.exactly (.string "ShareVault" 248) "java/lang/String") := by decide +kernel
theorem st_m289 : stL[794]? = some (Cond.exactly (.string "ShareVault" 289) "java/lang/String") := by decide +kernel
theorem st_m304 : stL[840]? = some (Cond.exactly (.string "ShareVault" 304) "java/lang/String") := by decide +kernel
theorem st_m311 : stL[876]? = some (Cond.exactly (.string "ShareVault" 311) "java/lang/String") := by decide +kernel
theorem st_m324 : stL[904]? = some (Cond.exactly (.string "ShareVault" 324) "java/lang/String") := by decide +kernel
theorem st_m351 : stL[929]? = some (Cond.exactly (.string "ShareVault" 351) "java/lang/String") := by decide +kernel
theorem st_m357 : stL[948]? = some (Cond.exactly (.string "ShareVault" 357) "java/lang/String") := by decide +kernel
theorem st_m376 : stL[973]? = some (Cond.exactly (.string "ShareVault" 376) "java/lang/String") := by decide +kernel
theorem st_m383 : stL[1003]? = some (Cond.exactly (.string "ShareVault" 383) "java/lang/String") := by decide +kernel
theorem st_m391 : stL[1028]? = some (Cond.exactly (.string "ShareVault" 391) "java/lang/String") := by decide +kernel
theorem st_m394 : stL[387]? = some (Cond.exactly (.string "ShareVault" 394) "java/lang/String") := by decide +kernel
theorem st_m396 : stL[413]? = some (Cond.exactly (.string "ShareVault" 396) "java/lang/String") := by decide +kernel
theorem st_m401 : stL[444]? = some (Cond.exactly (.string "ShareVault" 401) "java/lang/String") := by decide +kernel
theorem st_m409 : stL[500]? = some (Cond.exactly (.string "ShareVault" 409) "java/lang/String") := by decide +kernel
theorem st_m414 : stL[626]? = some (Cond.exactly (.string "ShareVault" 414) "java/lang/String") := by decide +kernel
theorem st_m416 : stL[677]? = some (Cond.exactly (.string "ShareVault" 416) "java/lang/String") := by decide +kernel
theorem st_m421 : stL[652]? = some (Cond.exactly (.string "ShareVault" 421) "java/lang/String") := by decide +kernel
theorem st_m423 : stL[467]? = some (Cond.exactly (.string "ShareVault" 423) "java/lang/String") := by decide +kernel
theorem st_m428 : stL[564]? = some (Cond.exactly (.string "ShareVault" 428) "java/lang/String") := by decide +kernel
theorem st_m430 : stL[764]? = some (Cond.exactly (.string "ShareVault" 430) "java/lang/String") := by decide +kernel
theorem st_m432 : stL[817]? = some (Cond.exactly (.string "ShareVault" 432) "java/lang/String") := by decide +kernel
/-- what equals a term that is a reference is that reference-/
theorem st_eqr {args : Array Value} {s : State} {t u : Term} {a : Nat} (h : (Cond.eq t u).before args s = true) (hu : u.eval args s none [] s = some (.ref a)) : t.eval args s none [] s = some (.ref a) := by
  cases hv : t.eval args s none [] s with
  | none => simp [Cond.before, Cond.holds, Cond.value, hv, hu] at h
  | some w =>
    simp only [Cond.before, Cond.holds, Cond.value, hv, hu] at h
    cases w <;> simp_all
theorem st_lf : ∀ k, k < 11 → mLt.getD k 0 < 31 ∧ mFm.getD k 0 < 31 := by decide
theorem st_tl : ∀ i, i < 31 → mTl.getD i 0 < 2 ^ 31 := by decide
/-- an array of no place is an array of any-/
theorem st_T0 {ty : FieldType} {t : Nat} {f g : Nat → Value} {A : Nat → Prop} {U : State} {H : Heap} (h : va_T ty t 0 f A U H) : va_T ty t 0 g A U H := by
  obtain ⟨cell, h1, h2, h3, h4, h5, -, h7⟩ := h
  exact ⟨cell, h1, h2, h3, h4, h5, fun j hj => absurd hj (Nat.not_lt_zero j), h7⟩
/-- the texts and their bytes-/
theorem st_texts {args : Array Value} {s : State} {A : Nat → Prop} (hn : ∀ c ∈ stL, c.before args s = true) (hA : ∀ a : Nat, a < s.heap.size → ¬ A a) : ∃ adK adV : Nat → Nat, ∀ i : Nat, i < 31 → (stTm i).eval args s none [] s = some (.ref (adK i)) ∧ va_O "java/lang/String" (adK i) A s s.heap ∧ va_OF "java/lang/String" "coder" "B" (.int 0) (adK i) A s s.heap ∧ va_OF "java/lang/String" "value" "[B" (.ref (adV i)) (adK i) A s s.heap ∧ va_T .byte (adV i) (mTl.getD i 0) (fun j => .int ((mTx.getD i []).getD j 0)) A s s.heap := by
  have h0 : ∀ i : Nat, ∃ q : Nat × Nat, i < 31 → (stTm i).eval args s none [] s = some (.ref q.1) ∧ va_O "java/lang/String" q.1 A s s.heap ∧ va_OF "java/lang/String" "coder" "B" (.int 0) q.1 A s s.heap ∧ va_OF "java/lang/String" "value" "[B" (.ref q.2) q.1 A s s.heap ∧ va_T .byte q.2 (mTl.getD i 0) (fun j => .int ((mTx.getD i []).getD j 0)) A s s.heap := by
    intro i
    by_cases hi : i < 31
    · obtain ⟨hex, hco, har, hle, hel⟩ := st_tx i hi
      obtain ⟨a, c, cA, kA, q1, q2, q3, q4, q5, q6, -⟩ := Cond.exactly_spec (args := args) (first := s) (o := none) (s := s) (idx := []) (t := stTm i) (cls := "java/lang/String") (st_in hn hex)
      obtain ⟨t, ht, hT⟩ := va_Tof (f := fun j => .int ((mTx.getD i []).getD j 0)) (A := A) (st_tl i hi) (st_in hn har) (va_eqt (st_in hn hle)) (fun j hj => va_eqt (st_in hn (hel j hj))) hA
      exact ⟨(a, t), fun _ => ⟨q1, ⟨cA, q3, q5, by rw [q6]; exact q2, hA a (Array.getElem?_eq_some_iff.mp q3).1⟩, vk_OFof q1 (va_eqt (st_in hn hco)) hA, vk_OFof q1 ht hA, hT⟩⟩
    · exact ⟨(0, 0), fun h => absurd h hi⟩
  obtain ⟨ad, had⟩ := Classical.axiomOfChoice h0
  exact ⟨fun i => (ad i).1, fun i => (ad i).2, had⟩
/-- the constants of Word-/
theorem st_consts {args : Array Value} {s : State} {A : Nat → Prop} {at1 : Nat → Nat} (hn : ∀ c ∈ stL, c.before args s = true) (hA : ∀ a : Nat, a < s.heap.size → ¬ A a) (htx : ∀ i : Nat, i < 31 → (stTm i).eval args s none [] s = some (.ref (at1 i))) :
    ∃ ac : Nat → Nat, ∀ k : Nat, k < 11 → (stW k).eval args s none [] s = some (.ref (ac k)) ∧ va_O "ShareVault$Word" (ac k) A s s.heap ∧ va_OF "java/lang/Enum" "ordinal" "I" (.int (Int32.ofNat k)) (ac k) A s s.heap ∧ va_OF "ShareVault$Word" "letters" "Ljava/lang/String;" (.ref (at1 (mLt.getD k 0))) (ac k) A s s.heap ∧ va_OF "ShareVault$Word" "form" "Ljava/lang/String;" (.ref (at1 (mFm.getD k 0))) (ac k) A s s.heap := by
  have h0 : ∀ k : Nat, ∃ q : Nat, k < 11 → (stW k).eval args s none [] s = some (.ref q) ∧ va_O "ShareVault$Word" q A s s.heap ∧ va_OF "java/lang/Enum" "ordinal" "I" (.int (Int32.ofNat k)) q A s s.heap ∧ va_OF "ShareVault$Word" "letters" "Ljava/lang/String;" (.ref (at1 (mLt.getD k 0))) q A s s.heap ∧ va_OF "ShareVault$Word" "form" "Ljava/lang/String;" (.ref (at1 (mFm.getD k 0))) q A s s.heap := by
    intro k
    by_cases hk : k < 11
    · obtain ⟨hex, hor, hle, hfo⟩ := st_co k hk
      obtain ⟨a, c, cA, kA, q1, q2, q3, q4, q5, q6, -⟩ := Cond.exactly_spec (args := args) (first := s) (o := none) (s := s) (idx := []) (t := stW k) (cls := "ShareVault$Word") (st_in hn hex)
      exact ⟨a, fun _ => ⟨q1, ⟨cA, q3, q5, by rw [q6]; exact q2, hA a (Array.getElem?_eq_some_iff.mp q3).1⟩, vk_OFof q1 (va_eqt (st_in hn hor)) hA, vk_OFof q1 (st_eqr (st_in hn hle) (htx _ (st_lf k hk).1)) hA, vk_OFof q1 (st_eqr (st_in hn hfo) (htx _ (st_lf k hk).2)) hA⟩⟩
    · exact ⟨0, fun h => absurd h hk⟩
  obtain ⟨ac, hac⟩ := Classical.axiomOfChoice h0
  exact ⟨ac, hac⟩
/-- a message: a String constant that the tables know-/
theorem st_msg {args : Array Value} {s : State} {own tx : String} {k : Nat} (h1 : (Cond.stringRef own k tx).before args s = true) (h2 : (Cond.exactly (.string own k) "java/lang/String").before args s = true) : ∃ a, vk_R own k tx a s := by
  obtain ⟨a, c, cA, kA, q1, -⟩ := Cond.exactly_spec (args := args) (first := s) (o := none) (s := s) (idx := []) (t := .string own k) (cls := "java/lang/String") h2
  exact ⟨a, vk_R.of h1 q1⟩
/-- the classes of arrays-/
theorem st_ac {args : Array Value} {s : State} {ty : FieldType} (h : (Cond.arrayClass ty).before args s = true) (hra : ∀ cA : ClassId, s.vm.findClass ("[" ++ ty.toString) = some cA → va_RA s cA ty) : ∃ cA : ClassId, ArrOfT s cA ty ∧ va_RA s cA ty := by
  obtain ⟨c, k, comp, h1, h2, h3⟩ := Cond.arrayClass_spec h
  exact ⟨c, fun n z => ⟨(fun k h => by cases h), k, h2, comp, h3⟩, hra c h1⟩
theorem st_ao {s : State} {C : String} (h : va_AO C s) : ∃ cA : ClassId, ArrOfT s cA (.object C) ∧ va_RA s cA (.object C) := by
  obtain ⟨comp, c, k, h1, h2, h3, h4, h5⟩ := Cond.arrayOver_spec h
  exact ⟨c, fun n z => ⟨(fun k h => by cases h), k, h3, comp, h4⟩, k, comp, h3, h4, h1, h5⟩
theorem st_aa {s : State} {t : FieldType} {a : Array Value} (h : (Cond.arrayOver (.array t)).before a s = true) : ∃ cA : ClassId, ArrOfT s cA (.array t) ∧ va_RA s cA (.array t) := by
  have h : (Cond.arrayOver (.array t)).holds a s none s [] = true := h
  simp only [Cond.holds, Cond.value, beq_iff_eq] at h
  cases hc : s.vm.findClass (FieldType.array t).toString with
  | none => simp [hc] at h
  | some comp =>
    simp only [hc, Option.bind_some, Option.bind_eq_some_iff, Option.map_eq_some_iff] at h
    obtain ⟨c, hi, k, hk, hb⟩ := h
    cases hkind : k.kind with
    | array component ty =>
      rw [hkind] at hb
      simp at hb
      exact ⟨c, fun n z => ⟨(fun k h => by cases h), k, hk, component, by rw [hkind, hb.1]⟩, hb.2⟩
    | _ => rw [hkind] at hb; simp at hb
theorem st_arr {args : Array Value} {s : State} (h0 : (Cond.arrayClass .int).before args s = true) (h1 : (Cond.arrayClass .boolean).before args s = true) (h2 : (Cond.arrayClass .char).before args s = true) (hT : gT s) :
    ∃ ca : Nat → ClassId, ∀ (f : Nat → Nat → Nat) (g : va_G × ((Nat → ClassId) × (Nat → Nat → Nat))), g.2.1 = ca → ∀ (k : Nat) (q : ClassId × FieldType), (mTys (f, g))[k]? = some q → ArrOfT s q.1 q.2 ∧ va_RA s q.1 q.2 := by
  obtain ⟨a0, r0⟩ := st_ac h0 (fun _ h => h)
  obtain ⟨a1, r1⟩ := st_ac h1 (fun _ h => h)
  obtain ⟨a2, r2⟩ := st_ac h2 (fun _ h => h)
  obtain ⟨a3, r3⟩ := st_ao hT.2.1
  obtain ⟨a4, r4⟩ := st_aa hT.2.2.2
  obtain ⟨a5, r5⟩ := st_ao hT.2.2.1
  refine ⟨fun k => ([a0, a1, a2, a3, a4, a5] : List ClassId).getD k 0, fun f g hg k q hq => ?_⟩
  unfold mTys at hq
  rw [hg] at hq
  match k, hq with
  | 0, hq => cases hq; exact r0
  | 1, hq => cases hq; exact r1
  | 2, hq => cases hq; exact r2
  | 3, hq => cases hq; exact r3
  | 4, hq => cases hq; exact r4
  | 5, hq => cases hq; exact r5
  | k + 6, hq => simp at hq
/-- the addresses of what nobody writes-/
def stAd (ac at1 at2 : Nat → Nat) (z0 z1 z2 : Nat) : Nat → Nat → Nat := fun g i => match g with
  | 0 => ac i
  | 1 => at1 (if i < 31 then i else 1)
  | 2 => at2 (if i < 31 then i else 1)
  | _ => if i = 0 then z0 else if i = 1 then z1 else z2
set_option maxRecDepth 100000 in
/-- the start's world-/
theorem l_start {args : Array Value} {s : State} (hts : ∀ w ∈ lw_tbl, w.before args s = true) (hgv : (Jvm.Cond.and given_1 narrow_1).before args s = true) : ∃ w2 : va_G × ((Nat → ClassId) × (Nat → Nat → Nat)), (∀ f : Nat → Nat → Nat, va_K w2.1 mCl (mTys (f, w2)) s) ∧ gT s ∧ ∀ f : Nat → Nat → Nat, mSt (f, w2) (fun q => s.heap.size ≤ q) s s.heap := by
  have hn : ∀ c ∈ stL, c.before args s = true := flat_of_before _ hgv
  have hT : gT s := ⟨mT.ofw hts, va_AO.of (hts _ (tin1 (List.mem_of_getElem? (l := tables_1_1) (i := 210) rfl))), va_AO.of (hts _ (tin2 (List.mem_of_getElem? (l := tables_1_2) (i := 10) rfl))), over_moved (Vm.Alike.refl s.vm) (hts _ (tin1 (List.mem_of_getElem? (l := tables_1_1) (i := 232) rfl)))⟩
  obtain ⟨ca, hca⟩ := st_arr (hts _ (tin1 (List.mem_of_getElem? (l := tables_1_1) (i := 87) rfl))) (hts _ (tin1 (List.mem_of_getElem? (l := tables_1_1) (i := 157) rfl))) (hts _ (tin1 (List.mem_of_getElem? (l := tables_1_1) (i := 181) rfl))) hT
  obtain ⟨c1, i1, k1⟩ := u_known (C := RX1) (T := TX1) (N := 8) (n := 8) hts (fun w hw => (lyX1 w hw).1) (hts _ (tin1 (List.mem_of_getElem? (l := tables_1_1) (i := 115) rfl)))
  obtain ⟨c2, i2, k2⟩ := u_known (C := RX2) (T := TX2) (N := 7) (n := 7) hts (fun w hw => (lyX2 w hw).1) (hts _ (tin2 (List.mem_of_getElem? (l := tables_1_2) (i := 4) rfl)))
  obtain ⟨c3, i3, k3⟩ := u_known (C := RX3) (T := TX3) (N := 4) (n := 4) hts (fun w hw => (lyX3 w hw).1) (hts _ (tin1 (List.mem_of_getElem? (l := tables_1_1) (i := 89) rfl)))
  obtain ⟨c4, i4, k4⟩ := u_known (C := RX4) (T := TX4) (N := 3) (n := 3) hts (fun w hw => (lyX4 w hw).1) (hts _ (tin1 (List.mem_of_getElem? (l := tables_1_1) (i := 204) rfl)))
  obtain ⟨c5, i5, k5⟩ := u_known (C := RX5) (T := TX5) (N := 4) (n := 4) hts (fun w hw => (lyX5 w hw).1) (hts _ (tin1 (List.mem_of_getElem? (l := tables_1_1) (i := 159) rfl)))
  obtain ⟨c6, i6, k6⟩ := u_known (C := RX6) (T := TX6) (N := 7) (n := 7) hts (fun w hw => (lyX6 w hw).1) (hts _ (tin1 (List.mem_of_getElem? (l := tables_1_1) (i := 45) rfl)))
  obtain ⟨c7, i7, k7⟩ := u_known (C := RX7) (T := TX7) (N := 2) (n := 2) hts (fun w hw => (lyX7 w hw).1) (hts _ (tin2 (List.mem_of_getElem? (l := tables_1_2) (i := 39) rfl)))
  obtain ⟨c8, i8, k8⟩ := u_known (C := RX8) (T := TX8) (N := 3) (n := 3) hts (fun w hw => (lyX8 w hw).1) (hts _ (tin1 (List.mem_of_getElem? (l := tables_1_1) (i := 226) rfl)))
  obtain ⟨c9, i9, k9⟩ := u_known (C := RX9) (T := TX9) (N := 5) (n := 5) hts (fun w hw => (lyX9 w hw).1) (hts _ (tin1 (List.mem_of_getElem? (l := tables_1_1) (i := 39) rfl)))
  obtain ⟨c11, i11, k11⟩ := u_known (C := RX11) (T := TX11) (N := 12) (n := 12) hts (fun w hw => (lyX11 w hw).1) (hts _ (tin1 (List.mem_of_getElem? (l := tables_1_1) (i := 31) rfl)))
  obtain ⟨c12, i12, k12⟩ := u_known (C := RX12) (T := TX12) (N := 23) (n := 23) hts (fun w hw => (lyX12 w hw).1) (hts _ (tin6 (List.mem_of_getElem? (l := tables_1_6) (i := 221) rfl)))
  have hKn : ∀ (k : Nat) (q : vw_C), mCl[k]? = some q → u_Kn s q.1 q.2.1 q.2.2 (([c1, c2, c3, c4, c5, c6, c7, c8, c9, c11, c12] : List ClassId).getD k 0) (([i1, i2, i3, i4, i5, i6, i7, i8, i9, i11, i12] : List (Nat → Nat)).getD k (fun _ => 0)) := by
    intro k q hq
    match k, hq with
    | 0, hq => cases hq; exact k1
    | 1, hq => cases hq; exact k2
    | 2, hq => cases hq; exact k3
    | 3, hq => cases hq; exact k4
    | 4, hq => cases hq; exact k5
    | 5, hq => cases hq; exact k6
    | 6, hq => cases hq; exact k7
    | 7, hq => cases hq; exact k8
    | 8, hq => cases hq; exact k9
    | 9, hq => cases hq; exact k11
    | 10, hq => cases hq; exact k12
    | k + 11, hq => simp [mCl] at hq
  have hA : ∀ a : Nat, a < s.heap.size → ¬ (fun q : Nat => s.heap.size ≤ q) a := fun a h => Nat.not_le.mpr h
  obtain ⟨at1, at2, htx⟩ := st_texts hn hA
  obtain ⟨ac, hac⟩ := st_consts hn hA (fun i hi => (htx i hi).1)
  obtain ⟨z0, e0, T0⟩ := va_Tof (tm := .static "ShareVault" "INVERSES" "[I") (N := 97) (f := fun k => .int (mInv.getD k 0)) (by decide) (st_in hn st_invA) (va_eqt (st_in hn st_invN)) (fun j hj => va_eqt (st_in hn (st_inv j hj))) hA
  obtain ⟨z1, e1, T1⟩ := va_Tof (tm := .static "ShareVault$Commands" "WORDS" "[LShareVault$Word;") (N := 11) (f := fun k => .ref (ac k)) (by decide) (st_in hn st_woA) (va_eqt (st_in hn st_woN)) (fun j hj => st_eqr (st_in hn (st_wo j hj)) (hac j hj).1) hA
  obtain ⟨z2, e2, T2⟩ := va_Tof (tm := .static "ShareVault$1" "$SwitchMap$ShareVault$Word" "[I") (N := 11) (f := fun k => .int (mSw.getD k 0)) (by decide) (st_in hn st_swA) (va_eqt (st_in hn st_swN)) (fun j hj => va_eqt (st_in hn (st_sw j hj))) hA
  refine ⟨((fun k => ([c1, c2, c3, c4, c5, c6, c7, c8, c9, c11, c12] : List ClassId).getD k 0, fun k => ([i1, i2, i3, i4, i5, i6, i7, i8, i9, i11, i12] : List (Nat → Nat)).getD k (fun _ => 0)), (ca, stAd ac at1 at2 z0 z1 z2)), fun f => ⟨hKn, hca f _ rfl⟩, hT, fun f => ⟨⟨?_, ?_⟩, ⟨?_, T0⟩, ⟨?_, T1⟩, ⟨?_, T2⟩, fun k hk => ?_, fun i hi => ?_, ?_, ?_, ?_, fun i j h1 h2 h3 h4 h5 => va_Nc.of (st_in hn (st_nc i (by omega) j (by omega) ⟨h1, h3, h5⟩)), ?_⟩⟩
  · exact vx_Zqof (hts _ (tin3 (List.mem_of_getElem? (l := tables_1_3) (i := 136) rfl))) (hts _ (tin1 (List.mem_of_getElem? (l := tables_1_1) (i := 13) rfl))) (st_in hn st_ref0) hA
  · exact vx_Zqof (hts _ (tin3 (List.mem_of_getElem? (l := tables_1_3) (i := 138) rfl))) (hts _ (tin1 (List.mem_of_getElem? (l := tables_1_1) (i := 13) rfl))) (st_in hn st_ref1) hA
  · exact va_Zref (hts _ (tin2 (List.mem_of_getElem? (l := tables_1_2) (i := 204) rfl))) (hts _ (tin1 (List.mem_of_getElem? (l := tables_1_1) (i := 1) rfl))) e0 hA
  · exact va_Zref (hts _ (tin6 (List.mem_of_getElem? (l := tables_1_6) (i := 61) rfl))) (hts _ (tin1 (List.mem_of_getElem? (l := tables_1_1) (i := 9) rfl))) e1 hA
  · exact va_Zref (hts _ (tin6 (List.mem_of_getElem? (l := tables_1_6) (i := 153) rfl))) (hts _ (tin1 (List.mem_of_getElem? (l := tables_1_1) (i := 29) rfl))) e2 hA
  · obtain ⟨-, q2, q3, q4, q5⟩ := hac k hk
    have l1 : mLt.getD k 0 < 31 := (st_lf k hk).1
    have l2 : mFm.getD k 0 < 31 := (st_lf k hk).2
    refine ⟨q2, q3, ?_, ?_⟩
    · show va_OF _ _ _ (.ref (at1 (if mLt.getD k 0 < 31 then mLt.getD k 0 else 1))) _ _ _ _
      rw [if_pos l1]; exact q4
    · show va_OF _ _ _ (.ref (at1 (if mFm.getD k 0 < 31 then mFm.getD k 0 else 1))) _ _ _ _
      rw [if_pos l2]; exact q5
  · by_cases h31 : i < 31
    · obtain ⟨-, q2, q3, q4, q5⟩ := htx i h31
      show va_O _ (at1 (if i < 31 then i else 1)) _ _ _ ∧ va_OF _ _ _ _ (at1 (if i < 31 then i else 1)) _ _ _ ∧ va_OF _ _ _ (.ref (at2 (if i < 31 then i else 1))) (at1 (if i < 31 then i else 1)) _ _ _ ∧ va_T _ (at2 (if i < 31 then i else 1)) _ _ _ _ _
      rw [if_pos h31]
      exact ⟨q2, q3, q4, q5⟩
    · obtain ⟨-, q2, q3, q4, q5⟩ := htx 1 (by decide)
      show va_O _ (at1 (if i < 31 then i else 1)) _ _ _ ∧ va_OF _ _ _ _ (at1 (if i < 31 then i else 1)) _ _ _ ∧ va_OF _ _ _ (.ref (at2 (if i < 31 then i else 1))) (at1 (if i < 31 then i else 1)) _ _ _ ∧ va_T _ (at2 (if i < 31 then i else 1)) _ _ _ _ _
      rw [if_neg h31]
      refine ⟨q2, q3, q4, ?_⟩
      rcases (show i = 31 ∨ i = 32 by omega) with rfl | rfl
      · exact st_T0 q5
      · exact st_T0 q5
  · exact va_Zof (hts _ (tin6 (List.mem_of_getElem? (l := tables_1_6) (i := 75) rfl))) (hts _ (tin1 (List.mem_of_getElem? (l := tables_1_1) (i := 21) rfl))) (va_eqi (st_in hn st_cs)) hA
  · exact List.forall_mem_cons.mpr ⟨vk_R.of (hts _ (tin8 (List.mem_of_getElem? (l := tables_1_8) (i := 228) rfl))) (htx 0 (by decide)).1, List.forall_mem_cons.mpr ⟨vk_R.of (hts _ (tin8 (List.mem_of_getElem? (l := tables_1_8) (i := 229) rfl))) (htx 1 (by decide)).1, List.forall_mem_cons.mpr ⟨vk_R.of (hts _ (tin8 (List.mem_of_getElem? (l := tables_1_8) (i := 223) rfl))) (htx 2 (by decide)).1, List.forall_mem_cons.mpr ⟨vk_R.of (hts _ (tin8 (List.mem_of_getElem? (l := tables_1_8) (i := 216) rfl))) (htx 3 (by decide)).1, List.forall_mem_cons.mpr ⟨vk_R.of (hts _ (tin8 (List.mem_of_getElem? (l := tables_1_8) (i := 239) rfl))) (htx 4 (by decide)).1, List.forall_mem_cons.mpr ⟨vk_R.of (hts _ (tin8 (List.mem_of_getElem? (l := tables_1_8) (i := 205) rfl))) (htx 5 (by decide)).1, List.forall_mem_cons.mpr ⟨vk_R.of (hts _ (tin8 (List.mem_of_getElem? (l := tables_1_8) (i := 217) rfl))) (htx 6 (by decide)).1, List.forall_mem_cons.mpr ⟨vk_R.of (hts _ (tin8 (List.mem_of_getElem? (l := tables_1_8) (i := 218) rfl))) (htx 7 (by decide)).1, List.forall_mem_cons.mpr ⟨vk_R.of (hts _ (tin8 (List.mem_of_getElem? (l := tables_1_8) (i := 230) rfl))) (htx 8 (by decide)).1, List.forall_mem_cons.mpr ⟨vk_R.of (hts _ (tin8 (List.mem_of_getElem? (l := tables_1_8) (i := 231) rfl))) (htx 9 (by decide)).1, List.forall_mem_cons.mpr ⟨vk_R.of (hts _ (tin8 (List.mem_of_getElem? (l := tables_1_8) (i := 232) rfl))) (htx 10 (by decide)).1, List.forall_mem_cons.mpr ⟨vk_R.of (hts _ (tin8 (List.mem_of_getElem? (l := tables_1_8) (i := 233) rfl))) (htx 11 (by decide)).1, List.forall_mem_cons.mpr ⟨vk_R.of (hts _ (tin8 (List.mem_of_getElem? (l := tables_1_8) (i := 234) rfl))) (htx 12 (by decide)).1, fun _ h => nomatch h⟩⟩⟩⟩⟩⟩⟩⟩⟩⟩⟩⟩⟩
  · exact List.forall_mem_cons.mpr ⟨st_msg (hts _ (tin5 (List.mem_of_getElem? (l := tables_1_5) (i := 27) rfl))) (st_in hn st_m153), List.forall_mem_cons.mpr ⟨st_msg (hts _ (tin5 (List.mem_of_getElem? (l := tables_1_5) (i := 54) rfl))) (st_in hn st_m173), List.forall_mem_cons.mpr ⟨st_msg (hts _ (tin5 (List.mem_of_getElem? (l := tables_1_5) (i := 147) rfl))) (st_in hn st_m236), List.forall_mem_cons.mpr ⟨st_msg (hts _ (tin5 (List.mem_of_getElem? (l := tables_1_5) (i := 156) rfl))) (st_in hn st_m248), List.forall_mem_cons.mpr ⟨st_msg (hts _ (tin5 (List.mem_of_getElem? (l := tables_1_5) (i := 224) rfl))) (st_in hn st_m289), List.forall_mem_cons.mpr ⟨st_msg (hts _ (tin6 (List.mem_of_getElem? (l := tables_1_6) (i := 12) rfl))) (st_in hn st_m304), List.forall_mem_cons.mpr ⟨st_msg (hts _ (tin6 (List.mem_of_getElem? (l := tables_1_6) (i := 30) rfl))) (st_in hn st_m311), List.forall_mem_cons.mpr ⟨st_msg (hts _ (tin6 (List.mem_of_getElem? (l := tables_1_6) (i := 147) rfl))) (st_in hn st_m324), List.forall_mem_cons.mpr ⟨st_msg (hts _ (tin6 (List.mem_of_getElem? (l := tables_1_6) (i := 179) rfl))) (st_in hn st_m351), List.forall_mem_cons.mpr ⟨st_msg (hts _ (tin6 (List.mem_of_getElem? (l := tables_1_6) (i := 187) rfl))) (st_in hn st_m357), List.forall_mem_cons.mpr ⟨st_msg (hts _ (tin6 (List.mem_of_getElem? (l := tables_1_6) (i := 195) rfl))) (st_in hn st_m376), List.forall_mem_cons.mpr ⟨st_msg (hts _ (tin6 (List.mem_of_getElem? (l := tables_1_6) (i := 203) rfl))) (st_in hn st_m383), List.forall_mem_cons.mpr ⟨st_msg (hts _ (tin6 (List.mem_of_getElem? (l := tables_1_6) (i := 215) rfl))) (st_in hn st_m391), List.forall_mem_cons.mpr ⟨st_msg (hts _ (tin3 (List.mem_of_getElem? (l := tables_1_3) (i := 154) rfl))) (st_in hn st_m394), List.forall_mem_cons.mpr ⟨st_msg (hts _ (tin3 (List.mem_of_getElem? (l := tables_1_3) (i := 190) rfl))) (st_in hn st_m396), List.forall_mem_cons.mpr ⟨st_msg (hts _ (tin3 (List.mem_of_getElem? (l := tables_1_3) (i := 218) rfl))) (st_in hn st_m401), List.forall_mem_cons.mpr ⟨st_msg (hts _ (tin5 (List.mem_of_getElem? (l := tables_1_5) (i := 3) rfl))) (st_in hn st_m409), List.forall_mem_cons.mpr ⟨st_msg (hts _ (tin5 (List.mem_of_getElem? (l := tables_1_5) (i := 92) rfl))) (st_in hn st_m414), List.forall_mem_cons.mpr ⟨st_msg (hts _ (tin5 (List.mem_of_getElem? (l := tables_1_5) (i := 132) rfl))) (st_in hn st_m416), List.forall_mem_cons.mpr ⟨st_msg (hts _ (tin5 (List.mem_of_getElem? (l := tables_1_5) (i := 112) rfl))) (st_in hn st_m421), List.forall_mem_cons.mpr ⟨st_msg (hts _ (tin4 (List.mem_of_getElem? (l := tables_1_4) (i := 224) rfl))) (st_in hn st_m423), List.forall_mem_cons.mpr ⟨st_msg (hts _ (tin5 (List.mem_of_getElem? (l := tables_1_5) (i := 39) rfl))) (st_in hn st_m428), List.forall_mem_cons.mpr ⟨st_msg (hts _ (tin5 (List.mem_of_getElem? (l := tables_1_5) (i := 187) rfl))) (st_in hn st_m430), List.forall_mem_cons.mpr ⟨st_msg (hts _ (tin5 (List.mem_of_getElem? (l := tables_1_5) (i := 237) rfl))) (st_in hn st_m432), fun _ h => nomatch h⟩⟩⟩⟩⟩⟩⟩⟩⟩⟩⟩⟩⟩⟩⟩⟩⟩⟩⟩⟩⟩⟩⟩⟩
  · exact va_Zqof (hts _ (tin6 (List.mem_of_getElem? (l := tables_1_6) (i := 91) rfl))) (hts _ (tin1 (List.mem_of_getElem? (l := tables_1_1) (i := 27) rfl))) (st_in hn st_ref2) hA
