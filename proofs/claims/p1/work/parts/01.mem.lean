abbrev Mem : Type := Nat → Nat → Nat → Int32
def mup (M : Mem) (g i k : Nat) (v : Int32) : Mem := fun a b c => if a = g ∧ b = i ∧ c = k then v else M a b c
def mInv : List Int32 := [0, 1, 49, 65, 73, 39, 81, 14, 85, 54, 68, 53, 89, 15, 7, 13, 91, 40, 27, 46, 34, 37, 75, 38, 93, 66, 56, 18, 52, 87, 55, 72, 94, 50, 20, 61, 62, 21, 23, 5, 17, 71, 67, 88, 86, 69, 19, 64, 95, 2, 33, 78, 28, 11, 9, 30, 26, 80, 92, 74, 76, 35, 36, 77, 47, 3, 25, 42, 10, 45, 79, 41, 31, 4, 59, 22, 60, 63, 51, 70, 57, 6, 84, 90, 82, 8, 44, 29, 43, 12, 83, 16, 58, 24, 32, 48, 96]
def mSw : List Int32 := [1, 2, 3, 4, 5, 6, 7, 8, 9, 10, 0]
def mLt : List Nat := [13, 15, 17, 19, 21, 22, 23, 24, 26, 27, 29]
def mFm : List Nat := [14, 16, 18, 20, 20, 14, 14, 25, 20, 28, 30]
def mTx : List (List Int32) := [[103, 117, 97, 114, 100, 32], [], [115, 101, 97, 108, 32], [32], [119, 97, 105, 116], [104, 117, 109, 32], [104, 111, 108, 100, 101, 114], [115, 104, 97, 114, 101, 32], [103, 105, 118, 101, 32], [98, 97, 99, 107, 32], [111, 112, 101, 110], [99, 108, 111, 115, 101], [116, 117, 114, 110, 32], [104, 111, 108, 100, 101, 114], [], [115, 101, 97, 108], [32, 110, 32, 110, 32, 110, 32, 110], [115, 104, 97, 114, 101], [32, 100, 32, 110], [103, 105, 118, 101], [32, 100], [98, 97, 99, 107], [111, 112, 101, 110], [99, 108, 111, 115, 101], [103, 117, 97, 114, 100], [32, 100, 115, 100], [116, 117, 114, 110], [104, 117, 109], [32, 100, 32, 100], [119, 97, 105, 116], [63, 32, 110]]
def mTl : List Nat := [6, 0, 5, 1, 4, 4, 6, 6, 5, 5, 4, 5, 5, 6, 0, 4, 8, 5, 4, 4, 2, 4, 4, 5, 5, 4, 4, 3, 4, 4, 3]
section MFUN
variable {α β γ : Type}
def mlet (x : α) (k : α → Option β) : Option β := k x
theorem mlet_e {x : α} {k : α → Option β} {o : β} (h : mlet x k = some o) : ∃ y, y = x ∧ k y = some o := ⟨x, rfl, h⟩
def mix (j : Int32) (n : Nat) (k : Option β) : Option β := if j < 0 ∨ n ≤ j.toNatClampNeg then none else k
theorem mix_e {j : Int32} {n : Nat} {k : Option β} {o : β} (h : mix j n k = some o) : vp_in j n ∧ k = some o := by
  unfold mix at h
  split at h
  · cases h
  · exact ⟨by assumption, h⟩
/-- the remainder, as the machine has it -/
def mrem (x y : Int32) : Int32 := x - x / y * y
def mdiv (y : Int32) (k : Option β) : Option β := if y = 0 then none else k
theorem mdiv_e {y : Int32} {k : Option β} {o : β} (h : mdiv y k = some o) : ¬ y = 0 ∧ k = some o := by
  unfold mdiv at h
  split at h
  · cases h
  · exact ⟨by assumption, h⟩
def mnz (y : Int32) (k : Option β) : Option β := if y = 0 ∨ y = 1 then k else none
theorem mnz_e {y : Int32} {k : Option β} {o : β} (h : mnz y k = some o) : (y = 0 ∨ y = 1) ∧ k = some o := by
  unfold mnz at h
  split at h
  · exact ⟨by assumption, h⟩
  · cases h
def mbnd (x : Option (α × Mem)) (k : α → Mem → Option β) : Option β := match x with
  | none => none
  | some (a, m) => k a m
theorem mbnd_e {x : Option (α × Mem)} {k : α → Mem → Option β} {o : β} (h : mbnd x k = some o) : ∃ a m, x = some (a, m) ∧ k a m = some o := by
  unfold mbnd at h
  split at h
  · cases h
  · exact ⟨_, _, rfl, h⟩
def mbndx (x : Option ((Nat ⊕ α) × Mem)) (k : α → Mem → Option ((Nat ⊕ β) × Mem)) : Option ((Nat ⊕ β) × Mem) := match x with
  | none => none
  | some (.inl n, m) => some (.inl n, m)
  | some (.inr a, m) => k a m
theorem mbndx_e {x : Option ((Nat ⊕ α) × Mem)} {k : α → Mem → Option ((Nat ⊕ β) × Mem)} {o : (Nat ⊕ β) × Mem} (h : mbndx x k = some o) : (∃ n m, x = some (.inl n, m) ∧ some (.inl n, m) = some o) ∨ ∃ a m, x = some (.inr a, m) ∧ k a m = some o := by
  unfold mbndx at h
  split at h
  · cases h
  · exact Or.inl ⟨_, _, rfl, h⟩
  · exact Or.inr ⟨_, _, rfl, h⟩
/-- a call that leaves the memory as it is -/
def mbp (x : Option α) (k : α → Option β) : Option β := match x with
  | none => none
  | some a => k a
theorem mbp_e {x : Option α} {k : α → Option β} {o : β} (h : mbp x k = some o) : ∃ a, x = some a ∧ k a = some o := by
  unfold mbp at h
  split at h
  · cases h
  · exact ⟨_, rfl, h⟩
def mbpx (x : Option (Nat ⊕ α)) (k : α → Option (Nat ⊕ β)) : Option (Nat ⊕ β) := match x with
  | none => none
  | some (.inl n) => some (.inl n)
  | some (.inr a) => k a
theorem mbpx_e {x : Option (Nat ⊕ α)} {k : α → Option (Nat ⊕ β)} {o : Nat ⊕ β} (h : mbpx x k = some o) : (∃ n, x = some (.inl n) ∧ some (.inl n) = some o) ∨ ∃ a, x = some (.inr a) ∧ k a = some o := by
  unfold mbpx at h
  split at h
  · cases h
  · exact Or.inl ⟨_, rfl, h⟩
  · exact Or.inr ⟨_, rfl, h⟩
def mbpxm (x : Option (Nat ⊕ α)) (m : Mem) (k : α → Option ((Nat ⊕ β) × Mem)) : Option ((Nat ⊕ β) × Mem) := match x with
  | none => none
  | some (.inl n) => some (.inl n, m)
  | some (.inr a) => k a
theorem mbpx_em {x : Option (Nat ⊕ α)} {m : Mem} {k : α → Option ((Nat ⊕ β) × Mem)} {o : (Nat ⊕ β) × Mem} (h : mbpxm x m k = some o) : (∃ n, x = some (.inl n) ∧ some (.inl n, m) = some o) ∨ ∃ a, x = some (.inr a) ∧ k a = some o := by
  unfold mbpxm at h
  split at h
  · cases h
  · exact Or.inl ⟨_, rfl, h⟩
  · exact Or.inr ⟨_, rfl, h⟩
theorem mlet_s {x y : α} {k : α → Option β} {o : Option β} (e : y = x) (h : mlet x k = o) : k y = o := by rw [e]; exact h
def mnc (y : Int32) (k : Option β) : Option β := if narrow .char (.int y) = .int y then k else none
theorem mnc_e {y : Int32} {k : Option β} {o : β} (h : mnc y k = some o) : narrow .char (.int y) = .int y ∧ k = some o := by
  unfold mnc at h
  split at h
  · exact ⟨by assumption, h⟩
  · cases h
def mn64 (x : UInt64) (k : Option β) : Option β := if x &&& 9223372036854775807 ≤ 9218868437227405312 then k else none
def mn32 (x : UInt32) (k : Option β) : Option β := if x &&& 2147483647 ≤ 2139095040 then k else none
/-- System.arraycopy -/
def mcp (M : Mem) (g0 i0 g1 i1 sp dp n : Nat) : Mem := fun a b => if a = g1 ∧ b = i1 then va_cpy (M g0 i0) (M g1 i1) sp dp n else M a b
def mcpok (ty : FieldType) (M : Mem) (g0 i0 n0 : Nat) (sp : Int32) (n1 : Nat) (dp n : Int32) : Prop := ¬ sp < 0 ∧ ¬ dp < 0 ∧ ¬ n < 0 ∧ sp.toNatClampNeg + n.toNatClampNeg ≤ n0 ∧ dp.toNatClampNeg + n.toNatClampNeg ≤ n1 ∧ ∀ j : Nat, j < n.toNatClampNeg → fits ty (.int (M g0 i0 (sp.toNatClampNeg + j))) = true
def mcpy (ty : FieldType) (M : Mem) (g0 i0 n0 : Nat) (sp : Int32) (g1 i1 n1 : Nat) (dp n : Int32) (k : Mem → Option β) : Option β :=
  if ¬ sp < 0 ∧ ¬ dp < 0 ∧ ¬ n < 0 ∧ sp.toNatClampNeg + n.toNatClampNeg ≤ n0 ∧ dp.toNatClampNeg + n.toNatClampNeg ≤ n1 ∧ ∀ j : Nat, j < n.toNatClampNeg → fits ty (.int (M g0 i0 (sp.toNatClampNeg + j))) = true then k (mcp M g0 i0 g1 i1 sp.toNatClampNeg dp.toNatClampNeg n.toNatClampNeg) else none
theorem mcpy_e {ty : FieldType} {M : Mem} {g0 i0 n0 : Nat} {sp : Int32} {g1 i1 n1 : Nat} {dp n : Int32} {k : Mem → Option β} {o : β} (h : mcpy ty M g0 i0 n0 sp g1 i1 n1 dp n k = some o) : mcpok ty M g0 i0 n0 sp n1 dp n ∧ ∃ M1, M1 = mcp M g0 i0 g1 i1 sp.toNatClampNeg dp.toNatClampNeg n.toNatClampNeg ∧ k M1 = some o := by
  unfold mcpy at h
  split at h
  · exact ⟨by assumption, _, rfl, h⟩
  · cases h
/-- a constant of Word out of the row of words -/
def mwd (v : Int32) (k : Nat → Option β) : Option β := if v = -1 ∨ 11 ≤ v.toNatClampNeg then none else k v.toNatClampNeg
end MFUN
theorem mne_i {x y : Int32} (h : ¬ x = y) : x.toInt ≠ y.toInt := fun e => h (Int32.toInt_inj.mp e)
