/-! THE MEMORY. A cell of the system has a group and a number in it; what a cell holds that is no address of another cell is an Int32 at a place. Groups 0..10: the states (0 the vault's own, 1..9 the ring, 10 the saved one), 11: the forecast, 12: all else. -/
abbrev Mem : Type := Nat → Nat → Nat → Int32
def mup (M : Mem) (g i k : Nat) (v : Int32) : Mem := fun a b c => if a = g ∧ b = i ∧ c = k then v else M a b c
/-- addresses; what the kit calls D; array classes (int, boolean, char, State, int[], Word); addresses of what nobody writes (0: constants of Word, 1: texts, 2: their bytes, 3: static arrays) -/
abbrev WD : Type := (Nat → Nat → Nat) × (va_G × ((Nat → ClassId) × (Nat → Nat → Nat)))
def mil : Nat → Option Nat
  | 2 => some 8
  | 3 => some 3
  | 4 => some 8
  | 7 => some 8
  | 8 => some 8
  | 9 => some 3
  | 11 => some 3
  | 13 => some 12
  | 15 => some 12
  | 21 => some 4
  | 22 => some 4
  | 23 => some 4
  | 24 => some 3
  | 25 => some 8
  | 30 => some 4
  | 31 => some 4
  | 32 => some 4
  | 33 => some 4
  | 34 => some 4
  | 35 => some 4
  | 36 => some 4
  | 37 => some 4
  | 38 => some 4
  | 39 => some 4
  | 40 => some 4
  | 41 => some 4
  | 42 => some 4
  | 43 => some 4
  | 44 => some 4
  | _ => none
def mcl : Nat → Option Nat
  | 14 => some 12
  | 27 => some 60
  | 46 => some 200
  | _ => none
def mwr (w : WD) (v : Int32) : Option Nat := if v = -1 then none else some (w.2.2.2 0 v.toNatClampNeg)
def mobj (w : WD) (g : Nat) : Nat → (Nat → Int32) → va_E
  | 0, f => .inr (8, [.ref (w.1 g 1), .ref (w.1 g 5), .ref (w.1 g 6), .ref (w.1 g 12), .int (f 4)])
  | 1, f => .inr (5, [.int (f 0), .ref (w.1 g 2), .int (f 2), .int (f 3), .ref (w.1 g 3), .int (f 5), .ref (w.1 g 4)])
  | 5, f => .inr (2, [.int (f 0), .int (f 1), .int (f 2), .int (f 3)])
  | 6, f => .inr (0, [.int (f 0), .ref (w.1 g 7), .ref (w.1 g 8), .int (f 3), .int (f 4), .ref (w.1 g 9), .ref (w.1 g 10), .ref (w.1 g 11)])
  | 12, f => .inr (4, [.int (f 0), .ref (w.1 g 13), .ref (w.1 g 14), .ref (w.1 g 15)])
  | 16, f => .inr (9, [.ref (w.1 0 0), .ref (w.1 12 17), .ref (w.1 10 0), .int (f 3), .ref (w.1 11 6), .ref (w.1 12 19), .ref (w.1 12 26), .ref (w.1 12 45), .int (f 8), .int (f 9), .int (f 10), .int (f 11)])
  | 17, f => .inr (3, [.ref (w.1 12 18), .int (f 1), .int (f 2)])
  | 19, f => .inr (7, [.ref (w.1 12 20), .ref (w.1 12 24), .ref (w.1 12 25)])
  | 26, f => .inr (1, [.ref (w.1 12 27), .int (f 1), .int (f 2), .int (f 3), .ref (w.1 12 28), .ref (w.1 12 29), .int (f 6)])
  | 45, f => .inr (6, [.ref (w.1 12 46), .int (f 1)])
  | 18, _ => .inl (w.2.2.1 3, 9, .inr (.inr (.inr (.inr (fun j => some (w.1 (1 + j) 0))))))
  | 20, _ => .inl (w.2.2.1 4, 3, .inr (.inr (.inr (.inr (fun j => some (w.1 12 (21 + j)))))))
  | 29, _ => .inl (w.2.2.1 4, 15, .inr (.inr (.inr (.inr (fun j => some (w.1 12 (30 + j)))))))
  | 28, f => .inl (w.2.2.1 5, 15, .inr (.inr (.inr (.inr (fun j => mwr w (f j))))))
  | 10, f => .inl (w.2.2.1 1, 3, .inl f)
  | _, f => .inl (w.2.2.1 0, 0, .inl f)
/-- what the cell i of the group g holds -/
def menc (w : WD) (g i : Nat) (f : Nat → Int32) : va_E := match mil i with
  | some n => .inl (w.2.2.1 0, n, .inl f)
  | none => match mcl i with
    | some n => .inl (w.2.2.1 2, n, .inl f)
    | none => mobj w g i f
def mkeys : List (Nat × Nat) := (List.range 11).flatMap (fun g => (List.range 16).map (fun i => (g, i))) ++ ((List.range 6).map (fun i => (11, i + 6)) ++ (List.range 31).map (fun i => (12, i + 16)))
def mok (g i : Nat) : Prop := (g, i) ∈ mkeys
abbrev mCl : List vw_C := [(RX1, TX1, 8), (RX2, TX2, 7), (RX3, TX3, 4), (RX4, TX4, 3), (RX5, TX5, 4), (RX6, TX6, 7), (RX7, TX7, 2), (RX8, TX8, 3), (RX9, TX9, 5), (RX11, TX11, 12)]
def mInv : List Int32 := [0, 1, 49, 65, 73, 39, 81, 14, 85, 54, 68, 53, 89, 15, 7, 13, 91, 40, 27, 46, 34, 37, 75, 38, 93, 66, 56, 18, 52, 87, 55, 72, 94, 50, 20, 61, 62, 21, 23, 5, 17, 71, 67, 88, 86, 69, 19, 64, 95, 2, 33, 78, 28, 11, 9, 30, 26, 80, 92, 74, 76, 35, 36, 77, 47, 3, 25, 42, 10, 45, 79, 41, 31, 4, 59, 22, 60, 63, 51, 70, 57, 6, 84, 90, 82, 8, 44, 29, 43, 12, 83, 16, 58, 24, 32, 48, 96]
def mSw : List Int32 := [1, 2, 3, 4, 5, 6, 7, 8, 9, 10, 0]
/-- the texts of a constant of Word, by their numbers -/
def mLt : List Nat := [13, 15, 17, 19, 21, 22, 23, 24, 26, 27, 29]
def mFm : List Nat := [14, 16, 18, 20, 20, 14, 14, 25, 20, 28, 30]
def mTx : List (List Int32) := [[103, 117, 97, 114, 100, 32], [], [115, 101, 97, 108, 32], [32], [119, 97, 105, 116], [104, 117, 109, 32], [104, 111, 108, 100, 101, 114], [115, 104, 97, 114, 101, 32], [103, 105, 118, 101, 32], [98, 97, 99, 107, 32], [111, 112, 101, 110], [99, 108, 111, 115, 101], [116, 117, 114, 110, 32], [104, 111, 108, 100, 101, 114], [], [115, 101, 97, 108], [32, 110, 32, 110, 32, 110, 32, 110], [115, 104, 97, 114, 101], [32, 100, 32, 110], [103, 105, 118, 101], [32, 100], [98, 97, 99, 107], [111, 112, 101, 110], [99, 108, 111, 115, 101], [103, 117, 97, 114, 100], [32, 100, 115, 100], [116, 117, 114, 110], [104, 117, 109], [32, 100, 32, 100], [119, 97, 105, 116], [63, 32, 110]]
def mTl : List Nat := [6, 0, 5, 1, 4, 4, 6, 6, 5, 5, 4, 5, 5, 6, 0, 4, 8, 5, 4, 4, 2, 4, 4, 5, 5, 4, 4, 3, 4, 4, 3]
/-- the texts of the law, by their numbers less 33 -/
def mLx : List (List Int32) := [[104, 117, 109, 32], [32], [59, 119, 97, 105, 116, 32], [59, 103, 105, 118, 101, 32], [59, 99, 108, 111, 115, 101], [59]]
def mLl : List Nat := [4, 1, 6, 6, 6, 1]
/-- String constants of the law: place in its pool, text, number -/
def mCs : List (Nat × String × Nat) := [(314, "hum ", 33), (323, " ", 34), (325, ";wait ", 35), (331, ";give ", 36), (333, ";close", 37), (335, ";", 38)]
def mCx : List (Nat × String) := [(153, "no key is presented at this place"), (173, "the position is out of range"), (236, "the number of hours is out of range"), (248, "there is no such rank"), (289, "no alarm was raised"), (311, "the input buffer is full"), (324, "the text is malformed"), (351, "a command fails"), (383, "no call can be undone"), (391, "no state was saved"), (394, "there is no such index"), (396, "an argument is out of range"), (401, "the call is refused"), (409, "there is no such holder"), (414, "there is no such guard"), (416, "there are no guards"), (421, "there is no such zone"), (423, "the vault has not been sealed"), (428, "too few keys are presented"), (430, "there is no such log entry")]
/-! ROWS -/
theorem m_tin {w : Cond} (h : w ∈ tables_1) : w ∈ lw_tbl := List.mem_append_right _ h
/-- a word that stays when more of the tables is resolved -/
def mgood : Cond → Bool
  | .fieldLinkNest .. => true
  | .methodLinkNest .. => true
  | .declares _ => true
  | .castable .. => true
  | .privateMethod _ => true
  | w => goodWord w
theorem mg_warm {s U : State} (hW : s.WarmedH U.vm) {w : Cond} (hg : mgood w = true) {a a' : Array Value} (h : w.before a s = true) : w.before a' U = true := by
  cases w
  case fieldLinkNest => exact va_Nw.use rfl (va_Nw.warmF hW (va_Nw.of rfl h))
  case methodLinkNest => exact va_Nw.use rfl (va_Nw.warmM hW (va_Nw.of rfl h))
  case declares => exact va_Nw.use rfl (va_Nw.warmD hW (va_Nw.of rfl h))
  case castable => exact va_Nw.use rfl (va_Nw.warmC hW (va_Nw.of rfl h))
  case privateMethod => exact Cond.privateMethod_warm hW h
  all_goals exact word_at hW (good_of_word hg) h
theorem m_in (ws : List Cond) (is : List Nat) (h : ws = is.filterMap (fun i => tables_1[i]?)) (hg : ws.all mgood = true) : ∀ w ∈ ws, w ∈ lw_tbl ∧ mgood w = true := by
  intro w hw
  refine ⟨?_, List.all_eq_true.mp hg w hw⟩
  rw [h] at hw
  obtain ⟨i, -, hi⟩ := List.mem_filterMap.mp hw
  exact m_tin (List.mem_of_getElem? hi)
/-- what the tables say of a start, without its arguments -/
def mT (s : State) : Prop := ∀ w ∈ lw_tbl, mgood w = true → ∀ a : Array Value, w.before a s = true
theorem mT.ofw {s : State} {a0 : Array Value} (h : ∀ w ∈ lw_tbl, w.before a0 s = true) : mT s := fun w hw hg a => mg_warm (State.WarmedH.refl s) hg (h w hw)
theorem mT.warm {s U : State} (hW : s.WarmedH U.vm) (h : mT s) : mT U := fun w hw hg a => mg_warm hW hg (h w hw hg a)
theorem mT.at {s : State} (h : mT s) (i : Nat) {w : Cond} (hi : tables_1[i]? = some w) (hg : mgood w = true) {a : Array Value} : w.before a s = true := h w (m_tin (List.mem_of_getElem? hi)) hg a
set_option maxRecDepth 100000 in
theorem lyX1 : ∀ w ∈ u_ws RX1 TX1 8, w ∈ lw_tbl ∧ mgood w = true := m_in _ [144, 146, 148, 150, 152, 154, 156, 158] rfl rfl
set_option maxRecDepth 100000 in
theorem lyX2 : ∀ w ∈ u_ws RX2 TX2 7, w ∈ lw_tbl ∧ mgood w = true := m_in _ [267, 269, 271, 273, 275, 277, 279] rfl rfl
set_option maxRecDepth 100000 in
theorem lyX3 : ∀ w ∈ u_ws RX3 TX3 4, w ∈ lw_tbl ∧ mgood w = true := m_in _ [109, 111, 113, 115] rfl rfl
set_option maxRecDepth 100000 in
theorem lyX4 : ∀ w ∈ u_ws RX4 TX4 3, w ∈ lw_tbl ∧ mgood w = true := m_in _ [220, 222, 224] rfl rfl
set_option maxRecDepth 100000 in
theorem lyX5 : ∀ w ∈ u_ws RX5 TX5 4, w ∈ lw_tbl ∧ mgood w = true := m_in _ [176, 178, 180, 182] rfl rfl
set_option maxRecDepth 100000 in
theorem lyX6 : ∀ w ∈ u_ws RX6 TX6 7, w ∈ lw_tbl ∧ mgood w = true := m_in _ [76, 78, 80, 82, 84, 86, 88] rfl rfl
set_option maxRecDepth 100000 in
theorem lyX7 : ∀ w ∈ u_ws RX7 TX7 2, w ∈ lw_tbl ∧ mgood w = true := m_in _ [289, 291] rfl rfl
set_option maxRecDepth 100000 in
theorem lyX8 : ∀ w ∈ u_ws RX8 TX8 3, w ∈ lw_tbl ∧ mgood w = true := m_in _ [240, 242, 244] rfl rfl
set_option maxRecDepth 100000 in
theorem lyX9 : ∀ w ∈ u_ws RX9 TX9 5, w ∈ lw_tbl ∧ mgood w = true := m_in _ [196, 198, 200, 202, 204] rfl rfl
set_option maxRecDepth 100000 in
theorem lyX11 : ∀ w ∈ u_ws RX11 TX11 12, w ∈ lw_tbl ∧ mgood w = true := m_in _ [306, 308, 310, 312, 314, 316, 318, 320, 322, 324, 326, 328] rfl rfl
/-- the kind of an exception, by its number -/
def mXn : Nat → String
  | 1 => "java/lang/IndexOutOfBoundsException"
  | 2 => "java/lang/IllegalArgumentException"
  | 3 => "java/lang/UnsupportedOperationException"
  | 4 => "java/util/NoSuchElementException"
  | 5 => "java/lang/IllegalStateException"
  | _ => "java/lang/ArithmeticException"
/-- the numbers of the texts of Word's constants -/
def mtx (i : Nat) : Prop := 13 ≤ i ∧ i < 31
/-- the law's script: its length and its numbers -/
def mxl (w : WD) : Nat := w.2.2.2 4 0
def mxs (w : WD) (k : Nat) : Int32 := Int32.ofNat (w.2.2.2 5 k)
/-- a text: where it lies, where its bytes lie, its length and its letters -/
def kS (A : Nat → Prop) (U : State) (H : Heap) (a v n : Nat) (f : Nat → Int32) : Prop := va_O "java/lang/String" a A U H ∧ va_OF "java/lang/String" "coder" "B" (.int 0) a A U H ∧ va_OF "java/lang/String" "value" "[B" (.ref v) a A U H ∧ va_T .byte v n (fun j => .int (f j)) A U H
/-- what nobody writes: where it lies and what it holds -/
def mSt (w : WD) (A : Nat → Prop) (U : State) (H : Heap) : Prop :=
  (vx_Zq Bundle.tN "UNASSIGNED_STACK" Bundle.steD A U H ∧ vx_Zq Bundle.tN "SUPPRESSED_SENTINEL" Bundle.listD A U H) ∧
  (va_Z "ShareVault" "INVERSES" "[I" (.ref (w.2.2.2 3 0)) A U H ∧ va_T .int (w.2.2.2 3 0) 97 (fun k => .int (mInv.getD k 0)) A U H) ∧
  (va_Z "ShareVault$Commands" "WORDS" "[LShareVault$Word;" (.ref (w.2.2.2 3 1)) A U H ∧ va_T (.object "ShareVault$Word") (w.2.2.2 3 1) 11 (fun k => .ref (w.2.2.2 0 k)) A U H) ∧
  (va_Z "ShareVault$1" "$SwitchMap$ShareVault$Word" "[I" (.ref (w.2.2.2 3 2)) A U H ∧ va_T .int (w.2.2.2 3 2) 11 (fun k => .int (mSw.getD k 0)) A U H) ∧
  (∀ k : Nat, k < 11 → va_O "ShareVault$Word" (w.2.2.2 0 k) A U H ∧ va_OF "java/lang/Enum" "ordinal" "I" (.int (Int32.ofNat k)) (w.2.2.2 0 k) A U H ∧
    va_OF "ShareVault$Word" "letters" "Ljava/lang/String;" (.ref (w.2.2.2 1 (mLt.getD k 0))) (w.2.2.2 0 k) A U H ∧ va_OF "ShareVault$Word" "form" "Ljava/lang/String;" (.ref (w.2.2.2 1 (mFm.getD k 0))) (w.2.2.2 0 k) A U H) ∧
  (∀ i : Nat, mtx i → va_O "java/lang/String" (w.2.2.2 1 i) A U H ∧ va_OF "java/lang/String" "coder" "B" (.int 0) (w.2.2.2 1 i) A U H ∧ va_OF "java/lang/String" "value" "[B" (.ref (w.2.2.2 2 i)) (w.2.2.2 1 i) A U H ∧ va_T .byte (w.2.2.2 2 i) (mTl.getD i 0) (fun j => .int ((mTx.getD i []).getD j 0)) A U H) ∧
  va_Z "java/lang/String" "COMPACT_STRINGS" "Z" (.int 1) A U H ∧
  (∀ q ∈ mCs, vk_R "ShareVaultLaw" q.1 q.2.1 (w.2.2.2 1 q.2.2) U) ∧ (∀ q ∈ mCx, ∃ a, vk_R "ShareVault" q.1 q.2 a U) ∧
  (∀ i j : Nat, 1 ≤ i → i ≤ 6 → 1 ≤ j → j ≤ 6 → i ≠ j → va_Nc (mXn i) (mXn j) U) ∧ va_Zq "jdk/internal/util/Preconditions" "SIOOBE_FORMATTER" "Ljava/util/function/BiFunction;" A U H ∧
  (∀ i : Nat, i < 6 → va_O "java/lang/String" (w.2.2.2 1 (33 + i)) A U H ∧ va_OF "java/lang/String" "coder" "B" (.int 0) (w.2.2.2 1 (33 + i)) A U H ∧ va_OF "java/lang/String" "value" "[B" (.ref (w.2.2.2 2 (33 + i))) (w.2.2.2 1 (33 + i)) A U H ∧ va_T .byte (w.2.2.2 2 (33 + i)) (mLl.getD i 0) (fun j => .int ((mLx.getD i []).getD j 0)) A U H) ∧
  va_T .int (w.2.2.2 3 3) (mxl w) (fun k => .int (mxs w k)) A U H ∧
  (va_Z "java/lang/Integer" "DigitOnes" "[B" (.ref (w.2.2.2 3 4)) A U H ∧ va_T .byte (w.2.2.2 3 4) 100 (fun k => .int (Int32.ofNat (48 + k % 10))) A U H) ∧
  (va_Z "java/lang/Integer" "DigitTens" "[B" (.ref (w.2.2.2 3 5)) A U H ∧ va_T .byte (w.2.2.2 3 5) 100 (fun k => .int (Int32.ofNat (48 + k / 10))) A U H) ∧
  (w.2.2.2 4 1 = 1 → kS A U H (w.2.2.2 1 40) (w.2.2.2 2 40) (w.2.2.2 4 2) (fun k => Int32.ofNat (w.2.2.2 6 k))) ∧
  (w.2.2.2 4 3 = 1 → va_T .long (w.2.2.2 3 6) 70 (fun k => .long (Int64.ofNat (w.2.2.2 7 k))) A U H)
theorem mSt.moved {w : WD} {A : Nat → Prop} {u U : State} {H : Heap} (hW : u.WarmedH U.vm) (h : mSt w A u H) : mSt w A U H := by
  have hv := hW.alike
  obtain ⟨⟨a1, a2⟩, ⟨b1, b2⟩, ⟨c1, c2⟩, ⟨d1, d2⟩, e1, f1, g1, h1, i1, j1, k1, l1, m1, ⟨n1, n2⟩, ⟨o1, o2⟩, x1, y1⟩ := h
  exact ⟨⟨a1.moved hv, a2.moved hv⟩, ⟨b1.moved hv, b2.moved hv⟩, ⟨c1.moved hv, c2.moved hv⟩, ⟨d1.moved hv, d2.moved hv⟩, fun k hk => ⟨(e1 k hk).1.moved hv, (e1 k hk).2.1.moved hv, (e1 k hk).2.2.1.moved hv, (e1 k hk).2.2.2.moved hv⟩,
    fun k hk => ⟨(f1 k hk).1.moved hv, (f1 k hk).2.1.moved hv, (f1 k hk).2.2.1.moved hv, (f1 k hk).2.2.2.moved hv⟩, g1.moved hv, fun q hq => (h1 q hq).warm hW, fun q hq => (i1 q hq).imp fun a ha => ha.warm hW, fun i j h1 h2 h3 h4 h5 => (j1 i j h1 h2 h3 h4 h5).moved hv, k1.moved hv, fun k hk => ⟨(l1 k hk).1.moved hv, (l1 k hk).2.1.moved hv, (l1 k hk).2.2.1.moved hv, (l1 k hk).2.2.2.moved hv⟩, m1.moved hv, ⟨n1.moved hv, n2.moved hv⟩, ⟨o1.moved hv, o2.moved hv⟩, fun hk => ⟨(x1 hk).1.moved hv, (x1 hk).2.1.moved hv, (x1 hk).2.2.1.moved hv, (x1 hk).2.2.2.moved hv⟩, fun hk => (y1 hk).moved hv⟩
theorem mSt.kept {w : WD} {A : Nat → Prop} {U : State} {H H1 : Heap} (h : mSt w A U H) (hq : ∀ a : Nat, a < H.size → ¬ A a → H1[a]? = H[a]?) : mSt w A U H1 := by
  obtain ⟨⟨a1, a2⟩, ⟨b1, b2⟩, ⟨c1, c2⟩, ⟨d1, d2⟩, e1, f1, g1, h1, i1, j1, k1, l1, m1, ⟨n1, n2⟩, ⟨o1, o2⟩, x1, y1⟩ := h
  exact ⟨⟨a1.kept hq, a2.kept hq⟩, ⟨b1.kept hq, b2.kept hq⟩, ⟨c1.kept hq, c2.kept hq⟩, ⟨d1.kept hq, d2.kept hq⟩, fun k hk => ⟨(e1 k hk).1.kept hq, (e1 k hk).2.1.kept hq, (e1 k hk).2.2.1.kept hq, (e1 k hk).2.2.2.kept hq⟩,
    fun k hk => ⟨(f1 k hk).1.kept hq, (f1 k hk).2.1.kept hq, (f1 k hk).2.2.1.kept hq, (f1 k hk).2.2.2.kept hq⟩, g1.kept hq, h1, i1, j1, k1.kept hq, fun k hk => ⟨(l1 k hk).1.kept hq, (l1 k hk).2.1.kept hq, (l1 k hk).2.2.1.kept hq, (l1 k hk).2.2.2.kept hq⟩, m1.kept hq, ⟨n1.kept hq, n2.kept hq⟩, ⟨o1.kept hq, o2.kept hq⟩, fun hk => ⟨(x1 hk).1.kept hq, (x1 hk).2.1.kept hq, (x1 hk).2.2.1.kept hq, (x1 hk).2.2.2.kept hq⟩, fun hk => (y1 hk).kept hq⟩
theorem mSt.narrow {w : WD} {A B : Nat → Prop} {U : State} {H : Heap} (h : mSt w A U H) (hAB : ∀ q, B q → A q) : mSt w B U H := by
  obtain ⟨⟨a1, a2⟩, ⟨b1, b2⟩, ⟨c1, c2⟩, ⟨d1, d2⟩, e1, f1, g1, h1, i1, j1, k1, l1, m1, ⟨n1, n2⟩, ⟨o1, o2⟩, x1, y1⟩ := h
  exact ⟨⟨a1.narrow hAB, a2.narrow hAB⟩, ⟨b1.narrow hAB, b2.narrow hAB⟩, ⟨c1.narrow hAB, c2.narrow hAB⟩, ⟨d1.narrow hAB, d2.narrow hAB⟩, fun k hk => ⟨(e1 k hk).1.narrow hAB, (e1 k hk).2.1.narrow hAB, (e1 k hk).2.2.1.narrow hAB, (e1 k hk).2.2.2.narrow hAB⟩,
    fun k hk => ⟨(f1 k hk).1.narrow hAB, (f1 k hk).2.1.narrow hAB, (f1 k hk).2.2.1.narrow hAB, (f1 k hk).2.2.2.narrow hAB⟩, g1.narrow hAB, h1, i1, j1, k1.narrow hAB, fun k hk => ⟨(l1 k hk).1.narrow hAB, (l1 k hk).2.1.narrow hAB, (l1 k hk).2.2.1.narrow hAB, (l1 k hk).2.2.2.narrow hAB⟩, m1.narrow hAB, ⟨n1.narrow hAB, n2.narrow hAB⟩, ⟨o1.narrow hAB, o2.narrow hAB⟩, fun hk => ⟨(x1 hk).1.narrow hAB, (x1 hk).2.1.narrow hAB, (x1 hk).2.2.1.narrow hAB, (x1 hk).2.2.2.narrow hAB⟩, fun hk => (y1 hk).narrow hAB⟩
/-- the world -/
def mW (w : WD) (M : Mem) : va_W := mkeys.map (fun q => (w.1 q.1 q.2, menc w q.1 q.2 (M q.1 q.2)))
def mTys (w : WD) : List (ClassId × FieldType) := [(w.2.2.1 0, .int), (w.2.2.1 1, .boolean), (w.2.2.1 2, .char), (w.2.2.1 3, .object "ShareVault$State"), (w.2.2.1 4, .array .int), (w.2.2.1 5, .object "ShareVault$Word")]
def mP (w : WD) (M : Mem) (H : Heap) : Prop := va_P w.2.1 mCl (mW w M) H
def mA (w : WD) (sz : Nat) : Nat → Prop := fun q => (∃ g i, mok g i ∧ q = w.1 g i) ∨ sz ≤ q
/-- the addresses of the system's cells are apart -/
def mJ (w : WD) : Prop := ∀ g i g' i' : Nat, mok g i → mok g' i' → w.1 g i = w.1 g' i' → g = g' ∧ i = i'
def mIpre (w : WD) (M : Mem) (U : State) : Prop := mP w M U.heap ∧ mJ w ∧ va_K w.2.1 mCl (mTys w) U ∧ mT U ∧ mSt w (mA w U.heap.size) U U.heap
/-- on the way: A holds what may be written -/
def mI (w : WD) (s : State) (A : Nat → Prop) (H : Heap) (locs : List Loc) (M : Mem) : Prop :=
  mP w M H ∧ mJ w ∧ va_K w.2.1 mCl (mTys w) s ∧ mT s ∧ mSt w A s s.heap ∧ va_S A s.heap H locs ∧ (∀ q : Nat, s.heap.size ≤ q → A q) ∧ ∀ g i : Nat, mok g i → A (w.1 g i)
theorem mI.P {w : WD} {s : State} {A : Nat → Prop} {H : Heap} {locs : List Loc} {M : Mem} (h : mI w s A H locs M) : mP w M H := h.1
theorem mI.J {w : WD} {s : State} {A : Nat → Prop} {H : Heap} {locs : List Loc} {M : Mem} (h : mI w s A H locs M) : mJ w := h.2.1
theorem mI.K {w : WD} {s : State} {A : Nat → Prop} {H : Heap} {locs : List Loc} {M : Mem} (h : mI w s A H locs M) : va_K w.2.1 mCl (mTys w) s := h.2.2.1
theorem mI.T {w : WD} {s : State} {A : Nat → Prop} {H : Heap} {locs : List Loc} {M : Mem} (h : mI w s A H locs M) : mT s := h.2.2.2.1
theorem mI.St {w : WD} {s : State} {A : Nat → Prop} {H : Heap} {locs : List Loc} {M : Mem} (h : mI w s A H locs M) : mSt w A s s.heap := h.2.2.2.2.1
theorem mI.S {w : WD} {s : State} {A : Nat → Prop} {H : Heap} {locs : List Loc} {M : Mem} (h : mI w s A H locs M) : va_S A s.heap H locs := h.2.2.2.2.2.1
theorem mI.A {w : WD} {s : State} {A : Nat → Prop} {H : Heap} {locs : List Loc} {M : Mem} (h : mI w s A H locs M) : ∀ q : Nat, s.heap.size ≤ q → A q := h.2.2.2.2.2.2.1
theorem mI.In {w : WD} {s : State} {A : Nat → Prop} {H : Heap} {locs : List Loc} {M : Mem} (h : mI w s A H locs M) : ∀ g i : Nat, mok g i → A (w.1 g i) := h.2.2.2.2.2.2.2
theorem mI.Zinv {w : WD} {s : State} {A : Nat → Prop} {H : Heap} {locs : List Loc} {M : Mem} (h : mI w s A H locs M) : va_Z "ShareVault" "INVERSES" "[I" (.ref (w.2.2.2 3 0)) A s s.heap := h.St.2.1.1
theorem mI.Tinv {w : WD} {s : State} {A : Nat → Prop} {H : Heap} {locs : List Loc} {M : Mem} (h : mI w s A H locs M) : va_T .int (w.2.2.2 3 0) 97 (fun k => .int (mInv.getD k 0)) A s s.heap := h.St.2.1.2
theorem mI.Zwords {w : WD} {s : State} {A : Nat → Prop} {H : Heap} {locs : List Loc} {M : Mem} (h : mI w s A H locs M) : va_Z "ShareVault$Commands" "WORDS" "[LShareVault$Word;" (.ref (w.2.2.2 3 1)) A s s.heap := h.St.2.2.1.1
theorem mI.Twords {w : WD} {s : State} {A : Nat → Prop} {H : Heap} {locs : List Loc} {M : Mem} (h : mI w s A H locs M) : va_T (.object "ShareVault$Word") (w.2.2.2 3 1) 11 (fun k => .ref (w.2.2.2 0 k)) A s s.heap := h.St.2.2.1.2
theorem mI.Zsw {w : WD} {s : State} {A : Nat → Prop} {H : Heap} {locs : List Loc} {M : Mem} (h : mI w s A H locs M) : va_Z "ShareVault$1" "$SwitchMap$ShareVault$Word" "[I" (.ref (w.2.2.2 3 2)) A s s.heap := h.St.2.2.2.1.1
theorem mI.Tsw {w : WD} {s : State} {A : Nat → Prop} {H : Heap} {locs : List Loc} {M : Mem} (h : mI w s A H locs M) : va_T .int (w.2.2.2 3 2) 11 (fun k => .int (mSw.getD k 0)) A s s.heap := h.St.2.2.2.1.2
theorem mI.str {w : WD} {s : State} {A : Nat → Prop} {H : Heap} {locs : List Loc} {M : Mem} (h : mI w s A H locs M) {i : Nat} {q : Nat × String × Nat} (hq : mCs[i]? = some q) : vk_R "ShareVaultLaw" q.1 q.2.1 (w.2.2.2 1 q.2.2) s := h.St.2.2.2.2.2.2.2.1 q (List.mem_of_getElem? hq)
theorem mI.msg {w : WD} {s : State} {A : Nat → Prop} {H : Heap} {locs : List Loc} {M : Mem} (h : mI w s A H locs M) {i : Nat} {q : Nat × String} (hq : mCx[i]? = some q) : ∃ a, vk_R "ShareVault" q.1 q.2 a s := h.St.2.2.2.2.2.2.2.2.1 q (List.mem_of_getElem? hq)
theorem mI.next {w : WD} {s : State} {A : Nat → Prop} {H H1 : Heap} {locs locs1 : List Loc} {M M1 : Mem} (h : mI w s A H locs M) (hP : mP w M1 H1) (hS : va_S A s.heap H1 locs1) : mI w s A H1 locs1 M1 := ⟨hP, h.J, h.K, h.T, h.St, hS, h.A, h.In⟩
theorem mkeys_get {k : Nat} {q : Nat × Nat} {w : WD} {M : Mem} (h : mkeys[k]? = some q) : (mW w M)[k]? = some (w.1 q.1 q.2, menc w q.1 q.2 (M q.1 q.2)) := by
  unfold mW
  rw [List.getElem?_map, h]
  rfl
theorem mW_of {k : Nat} {x : Nat × va_E} {w : WD} {M : Mem} (h : (mW w M)[k]? = some x) : ∃ q, mkeys[k]? = some q ∧ x = (w.1 q.1 q.2, menc w q.1 q.2 (M q.1 q.2)) := by
  unfold mW at h
  rw [List.getElem?_map] at h
  cases hq : mkeys[k]? with
  | none => rw [hq] at h; cases h
  | some q => rw [hq] at h; exact ⟨q, rfl, (Option.some.inj h).symm⟩
theorem mok_get {g i : Nat} (h : mok g i) : ∃ k : Nat, mkeys[k]? = some (g, i) := List.getElem?_of_mem h
theorem mkeys_nd : ∀ i j : Nat, i < 213 → j < 213 → mkeys[i]? = mkeys[j]? → i = j := by
  have h : mkeys.Nodup := by decide +kernel
  have hl : mkeys.length = 213 := by decide +kernel
  intro i j hi hj e
  exact (List.getElem?_inj (by rw [hl]; exact hi) h).mp e
theorem mkeys_lt {k : Nat} {q : Nat × Nat} (h : mkeys[k]? = some q) : k < 213 := by
  have hl : mkeys.length = 213 := by decide +kernel
  rw [← hl]
  exact (List.getElem?_eq_some_iff.mp h).1
theorem mI.D {w : WD} {s : State} {A : Nat → Prop} {H : Heap} {locs : List Loc} {M : Mem} (h : mI w s A H locs M) : va_D A (mW w M) := by
  refine ⟨fun i j x y hi hj hxy => ?_, fun k q hk => ?_⟩
  · obtain ⟨a, h1, rfl⟩ := mW_of hi
    obtain ⟨b, h2, rfl⟩ := mW_of hj
    obtain ⟨e1, e2⟩ := h.J _ _ _ _ (List.mem_of_getElem? h1) (List.mem_of_getElem? h2) hxy
    refine mkeys_nd i j (mkeys_lt h1) (mkeys_lt h2) ?_
    rw [h1, h2]
    exact congrArg some (Prod.ext e1 e2)
  · obtain ⟨a, h1, rfl⟩ := mW_of hk
    exact h.In _ _ (List.mem_of_getElem? h1)
theorem mup_self {M : Mem} {g i k : Nat} {v : Int32} : (mup M g i k v) g i = upd (M g i) k v := by
  funext c
  simp only [mup, upd]
  by_cases h : c = k <;> simp [h]
theorem mup_ne {M : Mem} {g i k : Nat} {v : Int32} {a b : Nat} (h : ¬ (a = g ∧ b = i)) : (mup M g i k v) a b = M a b := by
  funext c
  simp only [mup]
  rw [if_neg (fun q => h ⟨q.1, q.2.1⟩)]
/-- one cell written: the world with one place changed -/
theorem mW_set {w : WD} {M M1 : Mem} {g i q0 : Nat} {e : va_E} (hq : mkeys[q0]? = some (g, i)) (he : e = menc w g i (M1 g i)) (ho : ∀ a b, ¬ (a = g ∧ b = i) → M1 a b = M a b) : (mW w M).set q0 (w.1 g i, e) = mW w M1 := by
  subst he
  apply List.ext_getElem?
  intro k
  by_cases hk : k = q0
  · subst hk
    rw [mkeys_get hq, List.getElem?_set_self]
    exact (List.getElem?_eq_some_iff.mp (mkeys_get (w := w) (M := M) hq)).1
  · rw [List.getElem?_set_ne (Ne.symm hk)]
    cases hx : mkeys[k]? with
    | none =>
      have h1 : mkeys.length ≤ k := List.getElem?_eq_none_iff.mp hx
      rw [List.getElem?_eq_none_iff.mpr (by unfold mW; rw [List.length_map]; exact h1), List.getElem?_eq_none_iff.mpr (by unfold mW; rw [List.length_map]; exact h1)]
    | some x =>
      rw [mkeys_get hx, mkeys_get hx]
      have hn : ¬ (x.1 = g ∧ x.2 = i) := fun z => hk (mkeys_nd k q0 (mkeys_lt hx) (mkeys_lt hq) (by rw [hx, hq]; exact congrArg some (Prod.ext z.1 z.2)))
      rw [ho x.1 x.2 hn]
theorem mIpre.start {w : WD} {M : Mem} {s : State} (h : mIpre w M s) : mI w s (mA w s.heap.size) s.heap [] M := ⟨h.1, h.2.1, h.2.2.1, h.2.2.2.1, h.2.2.2.2, va_S.rf, fun q hq => Or.inr hq, fun g i hg => Or.inl ⟨g, i, hg, rfl⟩⟩
theorem mI.sub {w : WD} {s : State} {A : Nat → Prop} {H : Heap} {locs : List Loc} {M : Mem} (h : mI w s A H locs M) : ∀ q, mA w H.size q → A q := by
  intro q hq
  rcases hq with ⟨g, i, hg, rfl⟩ | hq
  · exact h.In g i hg
  · exact h.A q (Nat.le_trans h.S.1 hq)
theorem mI.pre {w : WD} {s : State} {A : Nat → Prop} {H : Heap} {locs : List Loc} {M : Mem} (h : mI w s A H locs M) {U : State} (hU : U.heap = H) (hW : s.WarmedH U.vm) : mIpre w M U := by
  subst hU
  exact ⟨h.P, h.J, va_K.moved hW.alike h.K, h.T.warm hW, ((h.St.kept (fun a h1 h2 => h.S.2.1 a h1 h2)).moved hW).narrow h.sub⟩
theorem mIpre.moved {w : WD} {M : Mem} {u U : State} (hh : U.heap = u.heap) (hW : u.WarmedH U.vm) (h : mIpre w M u) : mIpre w M U := by
  unfold mIpre
  rw [hh]
  exact ⟨h.1, h.2.1, va_K.moved hW.alike h.2.2.1, h.2.2.2.1.warm hW, h.2.2.2.2.moved hW⟩
def mPre (w : WD) (sz : Nat) (M : Mem) (av : List Value) : Array Value → State → Prop := va_Pc av (fun U => U.heap.size = sz ∧ mIpre w M U)
theorem mPre.blind {w : WD} {sz : Nat} {M : Mem} {av : List Value} : FrameBlind (mPre w sz M av) := fun a U g mk h => ⟨h.1, h.2.1, h.2.2.moved (u := U) (U := U.calling g mk a) rfl (State.WarmedH.refl U)⟩
def mQ (w : WD) (sz : Nat) (v : Option Value) (M : Mem) : Array Value → State → Outcome → State → Prop := fun _ st oc t => oc = .returned v ∧ mP w M t.heap ∧ va_F (mA w sz) st t
def mQx (w : WD) (sz : Nat) (o : Nat ⊕ Option Value) (M : Mem) : Array Value → State → Outcome → State → Prop := fun _ st oc t => (∃ v, o = .inr v ∧ oc = .returned v) ∧ mP w M t.heap ∧ va_F (mA w sz) st t
def mXx (w : WD) (sz : Nat) (o : Nat ⊕ Option Value) (M : Mem) : String → State → State → Prop := fun E st t => (∃ n, o = .inl n ∧ E = mXn n) ∧ mP w M t.heap ∧ va_F (mA w sz) st t
/-- a method that returns v and leaves M1 -/
abbrev mMet (l : Launch) (y : MethodName) (cc : ByteArray) (maxL : Nat) (ret : Option FieldType) (rm : Room) (w : WD) (sz : Nat) (M : Mem) (av : List Value) (v : Option Value) (M1 : Mem) : Prop := Met l y [Cond.code y cc maxL ret] rm (mPre w sz M av) (mQ w sz v M1) 0 0 (mA w sz)
abbrev mMetx (l : Launch) (y : MethodName) (cc : ByteArray) (maxL : Nat) (ret : Option FieldType) (rm : Room) (w : WD) (sz : Nat) (M : Mem) (av : List Value) (o : Nat ⊕ Option Value) (M1 : Mem) (mc ms : Nat) : Prop := vx_Met l y [Cond.code y cc maxL ret] rm (mPre w sz M av) (mQx w sz o M1) (mXx w sz o M1) mc ms (mA w sz)
theorem m_of {l : Launch} {y : MethodName} {cc : ByteArray} {maxL : Nat} {ret : Option FieldType} {rm : Room} {w : WD} {sz : Nat} {M M1 : Mem} {av : List Value} {v : Option Value} (hy : plainName y.cls = true) (ha : (lg_sl av).length ≤ maxL)
    (body : ∀ (p : Program) (e : Env) (s : State) (m : MethodId) (args : Array Value) (below : List Frame) (meth : Method) (c : Code), p.tables.exec = Jvm.exec → c.code = cc → meth.sig.returnType = ret → c.maxLocals = maxL → s.vm.findClass y.cls = some m.cls → meth.locks = false →
      mI w s (mA w s.heap.size) s.heap [] M → ∀ ls : Array Slot, lv_has ls maxL (lv_args 0 av) → W p l e rm s m args below meth c s.heap [] 0 0 (MQ below (mQ w s.heap.size v M1) args s 0 0 (mA w s.heap.size)) (F0 m 0 ls [])) : mMet l y cc maxL ret rm w sz M av v M1 := by
  refine Met.ofW (cc := cc) (maxL := maxL) (ret := ret) hy rfl ?_
  intro p e s m args below meth c s₁ B hml hv
  obtain ⟨rfl, rfl, hp⟩ := hv
  rw [lg_entry_eq]
  exact body p e s m _ below meth c B.exec B.bytes B.returns hml (findClass_of_methodNamed B.named) B.notSynchronized hp.start _ (lv_entry av ha)
theorem m_ofx {l : Launch} {y : MethodName} {cc : ByteArray} {maxL mc ms : Nat} {ret : Option FieldType} {rm : Room} {w : WD} {sz : Nat} {M M1 : Mem} {av : List Value} {o : Nat ⊕ Option Value} (hy : plainName y.cls = true) (ha : (lg_sl av).length ≤ maxL)
    (body : ∀ (p : Program) (e : Env) (s : State) (m : MethodId) (args : Array Value) (below : List Frame) (meth : Method) (c : Code), p.tables.exec = Jvm.exec → c.code = cc → meth.sig.returnType = ret → c.maxLocals = maxL → s.vm.findClass y.cls = some m.cls → meth.locks = false → (∀ x ∈ c.exceptionTable.toList, False) →
      mI w s (mA w s.heap.size) s.heap [] M → ∀ ls : Array Slot, lv_has ls maxL (lv_args 0 av) → W p l e rm s m args below meth c s.heap [] 0 0 (vx_MQ below (mQx w s.heap.size o M1) (mXx w s.heap.size o M1) args s mc ms (mA w s.heap.size)) (F0 m 0 ls [])) : mMetx l y cc maxL ret rm w sz M av o M1 mc ms := by
  refine vx_ofW (cc := cc) (maxL := maxL) (ret := ret) hy rfl ?_
  intro p e s m args below meth c s₁ B hml hxt hv
  obtain ⟨rfl, rfl, hp⟩ := hv
  rw [lg_entry_eq]
  exact body p e s m _ below meth c B.exec B.bytes B.returns hml (findClass_of_methodNamed B.named) B.notSynchronized hxt hp.start _ (lv_entry av ha)
section MROWS
variable {p : Program} {l : Launch} {e : Env} {R : Room} {s : State} {m : MethodId} {args : Array Value} {below : List Frame} {meth : Method} {c : Code} {H : Heap} {locs : List Loc} {cells slots : Nat} {Q : State → Prop}
variable {cc : ByteArray} {pc : Nat} {ls : Array Slot} {rest : List Value} {A : Nat → Prop} {w : WD} {M M1 : Mem} {g i : Nat}
theorem m_get (hx : p.tables.exec = Jvm.exec) (hb : c.code = cc) (hI : mI w s A H locs M) {own : String} (hown : s.vm.findClass own = some m.cls) {ci k N idx : Nat} {C : String} {T : u_T} {fs : List Value} {v : Value} (hok : mok g i) (he : menc w g i (M g i) = .inr (ci, fs)) (hc : mCl[ci]? = some (C, T, N)) (hk : k < N) (hly : ∀ w ∈ u_ws C T N, w ∈ lw_tbl ∧ mgood w = true)
    (hlink : (Cond.fieldLink own idx (T k).1 (T k).2.1 (T k).2.2.1).before args s = true) (hv : fs[k]? = some v) (hdg : decode cc pc = .ok (.getfield idx, 3))
    (kk : W p l e R s m args below meth c H locs cells slots Q (F0 m (pc + 3) ls (v :: rest))) : W p l e R s m args below meth c H locs cells slots Q (F0 m pc ls (.ref (w.1 g i) :: rest)) := by
  obtain ⟨q0, hq⟩ := mok_get hok
  exact va_get (Ts := u_ws C T N) hx hb (fun w hw => hI.T w (hly w hw).1 (hly w hw).2 args) (fun _ h => h) hown hI.K hI.P q0 ((mkeys_get hq).trans (congrArg (fun z => some (w.1 g i, z)) he)) hc k hk hlink (fun _ h => h) hv hdg kk
theorem m_put (hx : p.tables.exec = Jvm.exec) (hb : c.code = cc) (hI : mI w s A H locs M) {own : String} (hown : s.vm.findClass own = some m.cls) {ci k N idx : Nat} {C : String} {T : u_T} {fs : List Value} {ty : FieldType} {x : Int32} (hok : mok g i) (he : menc w g i (M g i) = .inr (ci, fs)) (hc : mCl[ci]? = some (C, T, N)) (hk : k < N) (hly : ∀ w ∈ u_ws C T N, w ∈ lw_tbl ∧ mgood w = true)
    (ty0 : Nat → FieldType) (hty : ∀ k, k < N → parseFieldDescriptor (T k).2.2.1 = some (ty0 k)) (hnm : ∀ a, a < N → ∀ b, b < N → a ≠ b → (T a).2.1 ≠ (T b).2.1)
    (hlink : (Cond.fieldLink own idx (T k).1 (T k).2.1 (T k).2.2.1).before args s = true) (hfin : (T k).2.2.2 = false) (hd : ty0 k = ty) (hn : narrow ty (.int x) = .int x) (hfit : fits ty (.int x) = true) (hl : k < fs.length)
    (hnew : menc w g i (upd (M g i) k x) = .inr (ci, fs.set k (.int x))) (hM : M1 = mup M g i k x) (hdg : decode cc pc = .ok (.putfield idx, 3))
    (kk : ∀ (H1 : Heap) (locs1 : List Loc), mI w s A H1 locs1 M1 → W p l e R s m args below meth c H1 locs1 cells slots Q (F0 m (pc + 3) ls rest)) : W p l e R s m args below meth c H locs cells slots Q (F0 m pc ls (.int x :: .ref (w.1 g i) :: rest)) := by
  subst hM
  obtain ⟨q0, hq⟩ := mok_get hok
  refine va_put (Ts := u_ws C T N) hx hb (fun w hw => hI.T w (hly w hw).1 (hly w hw).2 args) (fun _ h => h) ty0 hty hnm hown hI.K hI.P hI.D hI.S q0 ((mkeys_get hq).trans (congrArg (fun z => some (w.1 g i, z)) he)) hc k hk hlink (fun _ h => h) hfin ((hty k hk).trans (congrArg some hd)) hn hfit hl hdg (fun H1 locs1 hP1 hD1 hS1 => ?_)
  have e1 := mW_set (w := w) (M := M) (M1 := mup M g i k x) (e := .inr (ci, fs.set k (.int x))) hq (by rw [mup_self]; exact hnew.symm) (fun a b h => mup_ne h)
  rw [e1] at hP1
  exact kk H1 locs1 (hI.next hP1 hS1)
theorem menc_i {n : Nat} {f : Nat → Int32} (hl : mil i = some n) : menc w g i f = .inl (w.2.2.1 0, n, .inl f) := by
  unfold menc
  rw [hl]
theorem menc_c {n : Nat} {f : Nat → Int32} (hl : mcl i = some n) : menc w g i f = .inl (w.2.2.1 2, n, .inl f) := by
  have h : mil i = none := by
    unfold mcl at hl
    split at hl <;> first | rfl | cases hl
  unfold menc
  rw [h, hl]
theorem m_iald (hx : p.tables.exec = Jvm.exec) (hb : c.code = cc) (hI : mI w s A H locs M) (hok : mok g i) {n : Nat} (hl : mil i = some n) {j : Int32} (hin : vp_in j n) (hdg : decode cc pc = .ok (.iaload, 1))
    (kk : W p l e R s m args below meth c H locs cells slots Q (F0 m (pc + 1) ls (.int (M g i j.toNatClampNeg) :: rest))) : W p l e R s m args below meth c H locs cells slots Q (F0 m pc ls (.int j :: .ref (w.1 g i) :: rest)) := by
  obtain ⟨q0, hq⟩ := mok_get hok
  exact va_iald hx hb hI.K hI.P q0 0 ((mkeys_get hq).trans (congrArg (fun z => some (w.1 g i, z)) (menc_i hl))) rfl hin hdg kk
theorem m_iast (hx : p.tables.exec = Jvm.exec) (hb : c.code = cc) (hI : mI w s A H locs M) (hok : mok g i) {n : Nat} (hl : mil i = some n) {j x : Int32} (hin : vp_in j n) (hM : M1 = mup M g i j.toNatClampNeg x) (hdg : decode cc pc = .ok (.iastore, 1))
    (kk : ∀ (H1 : Heap) (locs1 : List Loc), mI w s A H1 locs1 M1 → W p l e R s m args below meth c H1 locs1 cells slots Q (F0 m (pc + 1) ls rest)) : W p l e R s m args below meth c H locs cells slots Q (F0 m pc ls (.int x :: .int j :: .ref (w.1 g i) :: rest)) := by
  subst hM
  obtain ⟨q0, hq⟩ := mok_get hok
  refine va_iast hx hb hI.K hI.P hI.D hI.S q0 0 ((mkeys_get hq).trans (congrArg (fun z => some (w.1 g i, z)) (menc_i hl))) rfl hin hdg (fun H1 locs1 hP1 hD1 hS1 => ?_)
  have e1 := mW_set (w := w) (M := M) (M1 := mup M g i j.toNatClampNeg x) hq (by rw [menc_i hl, mup_self]) (fun a b h => mup_ne h)
  rw [e1] at hP1
  exact kk H1 locs1 (hI.next hP1 hS1)
theorem m_cald (hx : p.tables.exec = Jvm.exec) (hb : c.code = cc) (hI : mI w s A H locs M) (hok : mok g i) {n : Nat} (hl : mcl i = some n) {j : Int32} (hin : vp_in j n) (hdg : decode cc pc = .ok (.caload, 1))
    (kk : W p l e R s m args below meth c H locs cells slots Q (F0 m (pc + 1) ls (.int (M g i j.toNatClampNeg) :: rest))) : W p l e R s m args below meth c H locs cells slots Q (F0 m pc ls (.int j :: .ref (w.1 g i) :: rest)) := by
  obtain ⟨q0, hq⟩ := mok_get hok
  exact va_cald hx hb hI.K hI.P q0 2 ((mkeys_get hq).trans (congrArg (fun z => some (w.1 g i, z)) (menc_c hl))) rfl hin hdg kk
theorem m_cast (hx : p.tables.exec = Jvm.exec) (hb : c.code = cc) (hI : mI w s A H locs M) (hok : mok g i) {n : Nat} (hl : mcl i = some n) {j x : Int32} (hin : vp_in j n) (hM : M1 = mup M g i j.toNatClampNeg (vp_nar .char x)) (hdg : decode cc pc = .ok (.castore, 1))
    (kk : ∀ (H1 : Heap) (locs1 : List Loc), mI w s A H1 locs1 M1 → W p l e R s m args below meth c H1 locs1 cells slots Q (F0 m (pc + 1) ls rest)) : W p l e R s m args below meth c H locs cells slots Q (F0 m pc ls (.int x :: .int j :: .ref (w.1 g i) :: rest)) := by
  subst hM
  obtain ⟨q0, hq⟩ := mok_get hok
  refine va_cast hx hb hI.K hI.P hI.D hI.S q0 2 ((mkeys_get hq).trans (congrArg (fun z => some (w.1 g i, z)) (menc_c hl))) rfl hin hdg (fun H1 locs1 hP1 hD1 hS1 => ?_)
  have e1 := mW_set (w := w) (M := M) (M1 := mup M g i j.toNatClampNeg (vp_nar .char x)) hq (by rw [menc_c hl, mup_self]) (fun a b h => mup_ne h)
  rw [e1] at hP1
  exact kk H1 locs1 (hI.next hP1 hS1)
theorem m_zald (hx : p.tables.exec = Jvm.exec) (hb : c.code = cc) (hI : mI w s A H locs M) (hok : mok g 10) {j : Int32} (hin : vp_in j 3) (hdg : decode cc pc = .ok (.baload, 1))
    (kk : W p l e R s m args below meth c H locs cells slots Q (F0 m (pc + 1) ls (.int (M g 10 j.toNatClampNeg) :: rest))) : W p l e R s m args below meth c H locs cells slots Q (F0 m pc ls (.int j :: .ref (w.1 g 10) :: rest)) := by
  obtain ⟨q0, hq⟩ := mok_get hok
  exact va_zald hx hb hI.K hI.P q0 1 (mkeys_get hq) rfl hin hdg kk
theorem m_zast (hx : p.tables.exec = Jvm.exec) (hb : c.code = cc) (hI : mI w s A H locs M) (hok : mok g 10) {j x : Int32} (hin : vp_in j 3) (hM : M1 = mup M g 10 j.toNatClampNeg (vp_nar .boolean x)) (hdg : decode cc pc = .ok (.bastore, 1))
    (kk : ∀ (H1 : Heap) (locs1 : List Loc), mI w s A H1 locs1 M1 → W p l e R s m args below meth c H1 locs1 cells slots Q (F0 m (pc + 1) ls rest)) : W p l e R s m args below meth c H locs cells slots Q (F0 m pc ls (.int x :: .int j :: .ref (w.1 g 10) :: rest)) := by
  subst hM
  obtain ⟨q0, hq⟩ := mok_get hok
  refine va_zast (n := 3) (f := M g 10) hx hb hI.K hI.P hI.D hI.S q0 1 (mkeys_get hq) rfl hin hdg (fun H1 locs1 hP1 hD1 hS1 => ?_)
  have e1 := mW_set (w := w) (M := M) (M1 := mup M g 10 j.toNatClampNeg (vp_nar .boolean x)) (e := .inl (w.2.2.1 1, 3, .inl (upd (M g 10) j.toNatClampNeg (vp_nar .boolean x)))) hq (by rw [mup_self]; rfl) (fun a b h => mup_ne h)
  rw [e1] at hP1
  exact kk H1 locs1 (hI.next hP1 hS1)
/-- a place of a fixed array of references -/
theorem m_aald (hx : p.tables.exec = Jvm.exec) (hb : c.code = cc) (hI : mI w s A H locs M) (hok : mok g i) {cA : ClassId} {n t0 : Nat} {ty : FieldType} {r : Nat → Option Nat} (he : menc w g i (M g i) = .inl (cA, n, .inr (.inr (.inr (.inr r))))) (ht : (mTys w)[t0]? = some (cA, ty)) (hty : ty.isReference = true) {j : Int32} (hin : vp_in j n) {v : Value} (hv : va_rf (r j.toNatClampNeg) = v) (hdg : decode cc pc = .ok (.aaload, 1))
    (kk : W p l e R s m args below meth c H locs cells slots Q (F0 m (pc + 1) ls (v :: rest))) : W p l e R s m args below meth c H locs cells slots Q (F0 m pc ls (.int j :: .ref (w.1 g i) :: rest)) := by
  obtain ⟨q0, hq⟩ := mok_get hok
  have hlt : j.toNatClampNeg < n := Nat.not_le.mp fun q => hin (Or.inr q)
  have ha := (mkeys_get (w := w) (M := M) hq).trans (congrArg (fun z => some (w.1 g i, z)) he)
  subst hv
  exact W.aald (v := va_rf (r j.toNatClampNeg)) hx hb (hI.P q0 _ ha) ((hI.K.2 t0 _ ht).1 n (fun j => va_rf (r j))) hty (fun q => by cases q) (by show ¬ (j < 0 ∨ (arrV _ _ _).slots.size ≤ _); rw [arrV_size]; exact hin) (by show (arrV _ _ _).slots[_]? = _; rw [arrV_read _ _ hlt]) rfl rfl hdg kk
theorem m_alen (hx : p.tables.exec = Jvm.exec) (hb : c.code = cc) (hI : mI w s A H locs M) (hok : mok g i) {n : Nat} (hl : mil i = some n) {v : Int32} (hv : Int32.ofNat n = v) (hdg : decode cc pc = .ok (.arraylength, 1))
    (kk : W p l e R s m args below meth c H locs cells slots Q (F0 m (pc + 1) ls (.int v :: rest))) : W p l e R s m args below meth c H locs cells slots Q (F0 m pc ls (.ref (w.1 g i) :: rest)) := by
  obtain ⟨q0, hq⟩ := mok_get hok
  exact va_alen (ty := .int) hx hb hI.K hI.P q0 0 ((mkeys_get hq).trans (congrArg (fun z => some (w.1 g i, z)) (menc_i hl))) rfl hv hdg kk
theorem m_recv (hI : mI w s A H locs M) (hok : mok g i) {ci N : Nat} {C : String} {T : u_T} {fs : List Value} (he : menc w g i (M g i) = .inr (ci, fs)) (hc : mCl[ci]? = some (C, T, N)) : ∃ cell : Cell, H[w.1 g i]? = some cell ∧ cell.vm.isStatics = false ∧ s.vm.findClass C = some cell.cls := by
  obtain ⟨q0, hq⟩ := mok_get hok
  exact va_recv hI.K hI.P hc ((mkeys_get hq).trans (congrArg (fun z => some (w.1 g i, z)) he))
/-- behind a call -/
theorem m_after {st0 : List Value} {a : Array Value} {v : Option Value} (hr : va_Run p l e R s m args below meth c H locs cells slots 0 0 (F0 m pc ls st0) rest (mQ w H.size v M1 a) (mA w H.size)) (hI : mI w s A H locs M)
    (kk : ∀ (H1 : Heap) (locs1 : List Loc), mI w s A H1 locs1 M1 → W p l e R s m args below meth c H1 locs1 cells slots Q (F0 m (pc + 3) ls (v.toList ++ rest))) : W p l e R s m args below meth c H locs cells slots Q (F0 m pc ls st0) := by
  intro T hT X
  obtain ⟨v1, st₀, t, T', L, h0, X', hL, e1, e2, ⟨hv, hP1, hz, hk⟩, st⟩ := hr T hT X
  cases hv
  rw [h0] at hz hk
  have hS := hI.S
  obtain ⟨t2, a1, b1⟩ := kk T'.heap (locs ++ L) (hI.next (by rw [e1]; exact hP1) ⟨Nat.le_trans hS.1 (by rw [e1]; exact hz), fun q h1 h2 => by rw [e1, hk q (Nat.lt_of_lt_of_le h1 hS.1) (fun z => h2 (hI.sub q z))]; exact hS.2.1 q h1 h2, fun q hq => by
      rcases List.mem_append.mp hq with h | h
      · exact hS.2.2 q h
      · exact hI.sub _ (hL q h)⟩) T' rfl X'
  exact ⟨t2, st t2 a1, b1⟩
theorem m_callB {y : MethodName} {bytes : ByteArray} {maxL n idx mc ms : Nat} {ret : Option FieldType} {rm : Room} {own : String} (hT : mT s) (hcode : Cond.code y bytes maxL ret ∈ lw_tbl) (hini : Cond.initialized y.cls ∈ lw_tbl) (hlink : (Cond.methodLink own idx y).before args s = true)
    (hd : y.cls ≠ "java/lang/invoke/MethodHandle" ∧ y.cls ≠ "java/lang/invoke/VarHandle" ∧ (parseMethodDescriptor y.desc).map (fun d => d.parameters.length) = some n) (hrm : rm.cells = mc ∧ rm.slots = ms ∧ rm.frames + 1 ≤ R.frames ∧ 8 + (maxL + 11) + rm.locals ≤ R.locals) :
    CallB R s args own idx y bytes maxL ret [Cond.code y bytes maxL ret] rm mc ms n := by
  refine ⟨hrm.1, hrm.2.1, hrm.2.2.1, hrm.2.2.2, fun w hw a' U hW => ?_, List.mem_cons_self, hT _ hcode rfl _, hT _ hini rfl _, ⟨hd.1, hd.2.1⟩, fun sig h => ?_, hlink⟩
  · obtain rfl := List.mem_singleton.mp hw
    exact word_at hW (good_of_word rfl) (hT _ hcode rfl args)
  · have h2 := hd.2.2
    rw [h] at h2
    exact (Option.some.inj h2).symm
theorem m_callV {y : MethodName} {bytes : ByteArray} {maxL nL n idx : Nat} {ret : Option FieldType} {rm : Room} {own C : String} {b : Nat} {As : List Value} {v : Option Value} (hx : p.tables.exec = Jvm.exec) (hb : c.code = cc) (hml : c.maxLocals = nL) (hown : s.vm.findClass own = some m.cls) (hI : mI w s A H locs M)
    (hM : mMet l y bytes maxL ret rm w H.size M (.ref b :: As) v M1) (hcb : CallB R s args own idx y bytes maxL ret [Cond.code y bytes maxL ret] rm 0 0 n) (hin : (Cond.instanceMethod y).before args s = true) (hse : (Cond.selects C y y).before args s = true)
    (hrc : ∃ cell : Cell, H[b]? = some cell ∧ cell.vm.isStatics = false ∧ s.vm.findClass C = some cell.cls) (hn : As.length = n) (hsize : ls.size = nL) (hW : (rest.map fun v => v.category).sum ≤ 8) (hdg : decode cc pc = .ok (.invokevirtual idx, 3)) (hf : cells ≤ R.cells ∧ slots ≤ R.slots)
    (kk : ∀ (H1 : Heap) (locs1 : List Loc), mI w s A H1 locs1 M1 → W p l e R s m args below meth c H1 locs1 cells slots Q (F0 m (pc + 3) ls (v.toList ++ rest))) : W p l e R s m args below meth c H locs cells slots Q (F0 m pc ls (As.reverse ++ .ref b :: rest)) :=
  m_after (va_runV (g := F0 m pc ls (As.reverse ++ .ref b :: rest)) (Ts := []) (As := As) (rest := rest) ⟨hx, hb, hml, hown, fun _ h => nomatch h⟩ hM ⟨hcb, hin, hse⟩ ⟨mPre.blind, hrc, fun U hU hW => ⟨rfl, by rw [hU], hI.pre hU hW⟩⟩ rfl hn hsize rfl (lv_room hW) hdg ⟨hf.1, hf.2⟩) hI kk
theorem m_callS {y : MethodName} {bytes : ByteArray} {maxL nL n idx : Nat} {ret : Option FieldType} {rm : Room} {own : String} {As : List Value} {v : Option Value} (hx : p.tables.exec = Jvm.exec) (hb : c.code = cc) (hml : c.maxLocals = nL) (hown : s.vm.findClass own = some m.cls) (hI : mI w s A H locs M)
    (hM : mMet l y bytes maxL ret rm w H.size M As v M1) (hcb : CallB R s args own idx y bytes maxL ret [Cond.code y bytes maxL ret] rm 0 0 n) (hst : (Cond.static y).before args s = true)
    (hn : As.length = n) (hsize : ls.size = nL) (hW : (rest.map fun v => v.category).sum ≤ 8) (hdg : decode cc pc = .ok (.invokestatic idx, 3)) (hf : cells ≤ R.cells ∧ slots ≤ R.slots)
    (kk : ∀ (H1 : Heap) (locs1 : List Loc), mI w s A H1 locs1 M1 → W p l e R s m args below meth c H1 locs1 cells slots Q (F0 m (pc + 3) ls (v.toList ++ rest))) : W p l e R s m args below meth c H locs cells slots Q (F0 m pc ls (As.reverse ++ rest)) :=
  m_after (va_runS (g := F0 m pc ls (As.reverse ++ rest)) (Ts := []) (As := As) (rest := rest) ⟨hx, hb, hml, hown, fun _ h => nomatch h⟩ hM ⟨hcb, hst⟩ ⟨mPre.blind, fun U hU hW => ⟨rfl, by rw [hU], hI.pre hU hW⟩⟩ rfl hn hsize rfl (lv_room hW) hdg ⟨hf.1, hf.2⟩) hI kk
theorem mI.ret (hI : mI w s (mA w s.heap.size) H locs M) {v : Option Value} : ∀ t : State, t.heap = H → s.WarmedH t.vm → mQ w s.heap.size v M args s (.returned v) t := fun t ht hW => ⟨rfl, by rw [ht]; exact hI.P, hI.S.F ht⟩
theorem m_iret (hx : p.tables.exec = Jvm.exec) (hb : c.code = cc) (hr : meth.sig.returnType = some .int) (hlocks : meth.locks = false) (hI : mI w s (mA w s.heap.size) H locs M) {v : Int32} (hdg : decode cc pc = .ok (.ireturn, 1)) :
    W p l e R s m args below meth c H locs cells slots (MQ below (mQ w s.heap.size (some (.int v)) M) args s cells slots (mA w s.heap.size)) (F0 m pc ls [.int v]) := W.iret hx hb hr hI.ret hI.S.2.2 hdg hlocks
theorem m_zret (hx : p.tables.exec = Jvm.exec) (hb : c.code = cc) {ty : FieldType} (hr : meth.sig.returnType = some ty) (hlocks : meth.locks = false) (hI : mI w s (mA w s.heap.size) H locs M) {v : Int32} (hn : narrow ty (.int v) = .int v) (hdg : decode cc pc = .ok (.ireturn, 1)) :
    W p l e R s m args below meth c H locs cells slots (MQ below (mQ w s.heap.size (some (.int v)) M) args s cells slots (mA w s.heap.size)) (F0 m pc ls [.int v]) := W.zret hx hb hr hn hI.ret hI.S.2.2 hdg hlocks
theorem m_vret (hx : p.tables.exec = Jvm.exec) (hb : c.code = cc) (hr : meth.sig.returnType = none) (hlocks : meth.locks = false) (hI : mI w s (mA w s.heap.size) H locs M) (hdg : decode cc pc = .ok (.return_, 1)) :
    W p l e R s m args below meth c H locs cells slots (MQ below (mQ w s.heap.size none M) args s cells slots (mA w s.heap.size)) (F0 m pc ls []) := W.vret hx hb hr hI.ret hI.S.2.2 hdg hlocks
end MROWS
/-! WHAT A METHOD DOES, as a function of the memory: none where the machine itself would throw (or a loop takes more turns than it is given) -/
section MFUN
variable {α β γ : Type}
def mlet (x : α) (k : α → Option β) : Option β := k x
theorem mlet_e {x : α} {k : α → Option β} {o : β} (h : mlet x k = some o) : ∃ y, y = x ∧ k y = some o := ⟨x, rfl, h⟩
def mix (j : Int32) (n : Nat) (k : Option β) : Option β := if j < 0 ∨ n ≤ j.toNatClampNeg then none else k
theorem mix_e {j : Int32} {n : Nat} {k : Option β} {o : β} (h : mix j n k = some o) : vp_in j n ∧ k = some o := by
  unfold mix at h
  split at h
  · cases h
  · exact ⟨by assumption, h⟩
/-- the remainder, as the machine has it -/
def mrem (x y : Int32) : Int32 := x - x / y * y
def mdiv (y : Int32) (k : Option β) : Option β := if y = 0 then none else k
theorem mdiv_e {y : Int32} {k : Option β} {o : β} (h : mdiv y k = some o) : ¬ y = 0 ∧ k = some o := by
  unfold mdiv at h
  split at h
  · cases h
  · exact ⟨by assumption, h⟩
def mnz (y : Int32) (k : Option β) : Option β := if y = 0 ∨ y = 1 then k else none
theorem mnz_e {y : Int32} {k : Option β} {o : β} (h : mnz y k = some o) : (y = 0 ∨ y = 1) ∧ k = some o := by
  unfold mnz at h
  split at h
  · exact ⟨by assumption, h⟩
  · cases h
def mbnd (x : Option (α × Mem)) (k : α → Mem → Option β) : Option β := match x with
  | none => none
  | some (a, m) => k a m
theorem mbnd_e {x : Option (α × Mem)} {k : α → Mem → Option β} {o : β} (h : mbnd x k = some o) : ∃ a m, x = some (a, m) ∧ k a m = some o := by
  unfold mbnd at h
  split at h
  · cases h
  · exact ⟨_, _, rfl, h⟩
def mbndx (x : Option ((Nat ⊕ α) × Mem)) (k : α → Mem → Option ((Nat ⊕ β) × Mem)) : Option ((Nat ⊕ β) × Mem) := match x with
  | none => none
  | some (.inl n, m) => some (.inl n, m)
  | some (.inr a, m) => k a m
theorem mbndx_e {x : Option ((Nat ⊕ α) × Mem)} {k : α → Mem → Option ((Nat ⊕ β) × Mem)} {o : (Nat ⊕ β) × Mem} (h : mbndx x k = some o) : (∃ n m, x = some (.inl n, m) ∧ some (.inl n, m) = some o) ∨ ∃ a m, x = some (.inr a, m) ∧ k a m = some o := by
  unfold mbndx at h
  split at h
  · cases h
  · exact Or.inl ⟨_, _, rfl, h⟩
  · exact Or.inr ⟨_, _, rfl, h⟩
/-- a call that leaves the memory as it is -/
def mbp (x : Option α) (k : α → Option β) : Option β := match x with
  | none => none
  | some a => k a
theorem mbp_e {x : Option α} {k : α → Option β} {o : β} (h : mbp x k = some o) : ∃ a, x = some a ∧ k a = some o := by
  unfold mbp at h
  split at h
  · cases h
  · exact ⟨_, rfl, h⟩
def mbpx (x : Option (Nat ⊕ α)) (k : α → Option (Nat ⊕ β)) : Option (Nat ⊕ β) := match x with
  | none => none
  | some (.inl n) => some (.inl n)
  | some (.inr a) => k a
theorem mbpx_e {x : Option (Nat ⊕ α)} {k : α → Option (Nat ⊕ β)} {o : Nat ⊕ β} (h : mbpx x k = some o) : (∃ n, x = some (.inl n) ∧ some (.inl n) = some o) ∨ ∃ a, x = some (.inr a) ∧ k a = some o := by
  unfold mbpx at h
  split at h
  · cases h
  · exact Or.inl ⟨_, rfl, h⟩
  · exact Or.inr ⟨_, rfl, h⟩
def mbpxm (x : Option (Nat ⊕ α)) (m : Mem) (k : α → Option ((Nat ⊕ β) × Mem)) : Option ((Nat ⊕ β) × Mem) := match x with
  | none => none
  | some (.inl n) => some (.inl n, m)
  | some (.inr a) => k a
theorem mbpx_em {x : Option (Nat ⊕ α)} {m : Mem} {k : α → Option ((Nat ⊕ β) × Mem)} {o : (Nat ⊕ β) × Mem} (h : mbpxm x m k = some o) : (∃ n, x = some (.inl n) ∧ some (.inl n, m) = some o) ∨ ∃ a, x = some (.inr a) ∧ k a = some o := by
  unfold mbpxm at h
  split at h
  · cases h
  · exact Or.inl ⟨_, rfl, h⟩
  · exact Or.inr ⟨_, rfl, h⟩
theorem mlet_s {x y : α} {k : α → Option β} {o : Option β} (e : y = x) (h : mlet x k = o) : k y = o := by rw [e]; exact h
def mnc (y : Int32) (k : Option β) : Option β := if narrow .char (.int y) = .int y then k else none
theorem mnc_e {y : Int32} {k : Option β} {o : β} (h : mnc y k = some o) : narrow .char (.int y) = .int y ∧ k = some o := by
  unfold mnc at h
  split at h
  · exact ⟨by assumption, h⟩
  · cases h
def mn64 (x : UInt64) (k : Option β) : Option β := if x &&& 9223372036854775807 ≤ 9218868437227405312 then k else none
def mn32 (x : UInt32) (k : Option β) : Option β := if x &&& 2147483647 ≤ 2139095040 then k else none
/-- System.arraycopy -/
def mcp (M : Mem) (g0 i0 g1 i1 sp dp n : Nat) : Mem := fun a b => if a = g1 ∧ b = i1 then va_cpy (M g0 i0) (M g1 i1) sp dp n else M a b
def mcpok (ty : FieldType) (M : Mem) (g0 i0 n0 : Nat) (sp : Int32) (n1 : Nat) (dp n : Int32) : Prop := ¬ sp < 0 ∧ ¬ dp < 0 ∧ ¬ n < 0 ∧ sp.toNatClampNeg + n.toNatClampNeg ≤ n0 ∧ dp.toNatClampNeg + n.toNatClampNeg ≤ n1 ∧ ∀ j : Nat, j < n.toNatClampNeg → fits ty (.int (M g0 i0 (sp.toNatClampNeg + j))) = true
def mcpy (ty : FieldType) (M : Mem) (g0 i0 n0 : Nat) (sp : Int32) (g1 i1 n1 : Nat) (dp n : Int32) (k : Mem → Option β) : Option β :=
  if ¬ sp < 0 ∧ ¬ dp < 0 ∧ ¬ n < 0 ∧ sp.toNatClampNeg + n.toNatClampNeg ≤ n0 ∧ dp.toNatClampNeg + n.toNatClampNeg ≤ n1 ∧ ∀ j : Nat, j < n.toNatClampNeg → fits ty (.int (M g0 i0 (sp.toNatClampNeg + j))) = true then k (mcp M g0 i0 g1 i1 sp.toNatClampNeg dp.toNatClampNeg n.toNatClampNeg) else none
theorem mcpy_e {ty : FieldType} {M : Mem} {g0 i0 n0 : Nat} {sp : Int32} {g1 i1 n1 : Nat} {dp n : Int32} {k : Mem → Option β} {o : β} (h : mcpy ty M g0 i0 n0 sp g1 i1 n1 dp n k = some o) : mcpok ty M g0 i0 n0 sp n1 dp n ∧ ∃ M1, M1 = mcp M g0 i0 g1 i1 sp.toNatClampNeg dp.toNatClampNeg n.toNatClampNeg ∧ k M1 = some o := by
  unfold mcpy at h
  split at h
  · exact ⟨by assumption, _, rfl, h⟩
  · cases h
/-- a constant of Word out of the row of words -/
def mwd (v : Int32) (k : Nat → Option β) : Option β := if v = -1 ∨ 11 ≤ v.toNatClampNeg then none else k v.toNatClampNeg
end MFUN
theorem mne_i {x y : Int32} (h : ¬ x = y) : x.toInt ≠ y.toInt := fun e => h (Int32.toInt_inj.mp e)
theorem mnz_n {y : Int32} (h : y = 0 ∨ y = 1) : narrow .boolean (.int y) = .int y := by rcases h with rfl | rfl <;> rfl
theorem mnz_f {y : Int32} (h : y = 0 ∨ y = 1) : fits .boolean (.int y) = true := by rcases h with rfl | rfl <;> rfl
theorem mix_lt {j : Int32} {n : Nat} (h : vp_in j n) : j.toNatClampNeg < n := Nat.not_le.mp fun q => h (Or.inr q)
