/-! THE FRESH MEMORY: what the two constructors leave is the memory mFresh, at the addresses of 'lay' -/
def mFresh : Mem := fun g i k => if g = 12 ∧ (i = 16 ∧ (k = 8 ∨ k = 10 ∨ k = 11) ∨ i = 47 ∧ k = 14 ∨ i = 28) then -nI 1 else nI 0
theorem fr_0 {g i k : Nat} (h : ¬ (g = 12 ∧ (i = 16 ∧ (k = 8 ∨ k = 10 ∨ k = 11) ∨ i = 47 ∧ k = 14 ∨ i = 28))) : mFresh g i k = nI 0 := if_neg h
theorem fr_g {g i k : Nat} (h : ¬ g = 12) : mFresh g i k = nI 0 := fr_0 fun q => h q.1
/-- a: the vault; z: what it made; b: the model; y: what that made -/
def lay (a z b y : Nat) : Nat → Nat → Nat := fun g i =>
  if g = 12 then (if i = 16 then a else if i = 47 then b else if 48 ≤ i then y + (i - 48) else if i ≤ 18 then z + (i - 1) else z + (165 + i))
  else if g = 11 then z + (172 + i) else if g = 0 then z + i else if g = 10 then z + 162 + i else z + 17 + 1 + 16 * (g - 1) + i
theorem va_P.spl {D : va_G} {cl : List vw_C} {w1 w2 : va_W} {H : Heap} (h : va_P D cl (w1 ++ w2) H) : va_P D cl w1 H ∧ va_P D cl w2 H := by
  refine ⟨fun k q hk => ?_, fun k q hk => ?_⟩
  · obtain ⟨i, hi⟩ := List.getElem?_of_mem (List.mem_append_left w2 (List.mem_of_getElem? hk))
    exact h i q hi
  · obtain ⟨i, hi⟩ := List.getElem?_of_mem (List.mem_append_right w1 (List.mem_of_getElem? hk))
    exact h i q hi
theorem arrV_congr (cA : ClassId) (N : Nat) {f g : Nat → Value} (h : ∀ j, j < N → f j = g j) : arrV cA N f = arrV cA N g := by
  unfold arrV
  have e : (fun j : Fin N => f j.val) = fun j : Fin N => g j.val := funext fun j => h j.val j.isLt
  rw [e]
theorem va_at.refs {D : va_G} {cl : List vw_C} {q N : Nat} {cA : ClassId} {f g : Nat → Option Nat} {H : Heap} (h : va_at D cl (q, .inl (cA, N, .inr (.inr (.inr (.inr f))))) H) (e : ∀ j, j < N → f j = g j) : va_at D cl (q, .inl (cA, N, .inr (.inr (.inr (.inr g))))) H := by
  have h' : H[q]? = some (vp_cell cA (N, .inr (.inr (.inr (.inr f))))) := h
  show H[q]? = some (vp_cell cA (N, .inr (.inr (.inr (.inr g)))))
  rw [h', vp_cell_q, vp_cell_q]
  exact congrArg some (arrV_congr cA N fun j hj => by rw [e j hj])
theorem frf {g i : Nat} (hg : ¬ g = 12) : mFresh g i = fun _ => 0 := funext fun k => fr_g hg
/-- a state -/
theorem x9_at (w : WD) {g base : Nat} (hg : ¬ g = 12) (hw : ∀ i, i < 16 → w.1 g i = base + i) : ∀ i, i < 16 → (ws_X9 w base (base + 1))[i]? = some (w.1 g i, menc w g i (mFresh g i)) := by
  intro i hi
  rw [frf hg, hw i hi]
  match i, hi with
  | 0, _ =>
    show _ = (some (base + 0, Sum.inr (8, [.ref (w.1 g 1), .ref (w.1 g 5), .ref (w.1 g 6), .ref (w.1 g 12), .int 0])) : Option (Nat × va_E))
    rw [hw 1 (by decide), hw 5 (by decide), hw 6 (by decide), hw 12 (by decide)]
    rfl
  | 1, _ =>
    show _ = (some (base + 1, Sum.inr (5, [.int 0, .ref (w.1 g 2), .int 0, .int 0, .ref (w.1 g 3), .int 0, .ref (w.1 g 4)])) : Option (Nat × va_E))
    rw [hw 2 (by decide), hw 3 (by decide), hw 4 (by decide)]
    rfl
  | 6, _ =>
    show _ = (some (base + 6, Sum.inr (0, [.int 0, .ref (w.1 g 7), .ref (w.1 g 8), .int 0, .int 0, .ref (w.1 g 9), .ref (w.1 g 10), .ref (w.1 g 11)])) : Option (Nat × va_E))
    rw [hw 7 (by decide), hw 8 (by decide), hw 9 (by decide), hw 10 (by decide), hw 11 (by decide)]
    rfl
  | 12, _ =>
    show _ = (some (base + 12, Sum.inr (4, [.int 0, .ref (w.1 g 13), .ref (w.1 g 14), .ref (w.1 g 15)])) : Option (Nat × va_E))
    rw [hw 13 (by decide), hw 14 (by decide), hw 15 (by decide)]
    rfl
  | 2, _ => rfl
  | 3, _ => rfl
  | 4, _ => rfl
  | 5, _ => rfl
  | 7, _ => rfl
  | 8, _ => rfl
  | 9, _ => rfl
  | 10, _ => rfl
  | 11, _ => rfl
  | 13, _ => rfl
  | 14, _ => rfl
  | 15, _ => rfl
  | n + 16, h => exact absurd h (by omega)
theorem frz {i : Nat} (h : i ≠ 16 ∧ i ≠ 28 ∧ i ≠ 47) : mFresh 12 i = fun _ => 0 := funext fun k => fr_0 (by omega)
set_option maxRecDepth 100000 in
theorem lay_mP (w2 : va_G × ((Nat → ClassId) × (Nat → Nat → Nat))) {a z b y : Nat} {H : Heap} (h1 : va_P w2.1 mCl (ws_X11 (lay a z b y, w2) a z) H) : mP (lay a z b y, w2) mFresh H := by
  intro k q hk
  obtain ⟨⟨g, i⟩, hkey, rfl⟩ := mW_of hk
  have hmem := List.mem_of_getElem? hkey
  show va_at w2.1 mCl (lay a z b y g i, menc (lay a z b y, w2) g i (mFresh g i)) H
  unfold ws_X11 at h1
  obtain ⟨h1, hO⟩ := h1.spl
  obtain ⟨h1, hC⟩ := h1.spl
  obtain ⟨h1, hS⟩ := h1.spl
  obtain ⟨h1, hF⟩ := h1.spl
  obtain ⟨h1, hV⟩ := h1.spl
  obtain ⟨h1, hHi⟩ := h1.spl
  obtain ⟨hA, hS0⟩ := h1.spl
  have hcase : (g < 11 ∧ i < 16) ∨ (g = 11 ∧ 6 ≤ i ∧ i < 12) ∨ (g = 12 ∧ 16 ≤ i ∧ i < 47) := by
    unfold mkeys at hmem
    rcases List.mem_append.mp hmem with h | h
    · obtain ⟨g', hg', h⟩ := List.mem_flatMap.mp h
      obtain ⟨i', hi', h⟩ := List.mem_map.mp h
      cases h
      exact Or.inl ⟨List.mem_range.mp hg', List.mem_range.mp hi'⟩
    · rcases List.mem_append.mp h with h | h
      · obtain ⟨i', hi', h⟩ := List.mem_map.mp h
        cases h
        have := List.mem_range.mp hi'
        exact Or.inr (Or.inl ⟨rfl, by omega, by omega⟩)
      · obtain ⟨i', hi', h⟩ := List.mem_map.mp h
        cases h
        have := List.mem_range.mp hi'
        exact Or.inr (Or.inr ⟨rfl, by omega, by omega⟩)
  rcases hcase with ⟨hg, hi⟩ | ⟨rfl, hi1, hi2⟩ | ⟨rfl, hi1, hi2⟩
  · by_cases g0 : g = 0
    · subst g0
      exact hS0 i _ (x9_at (lay a z b y, w2) (g := 0) (base := z) (by decide) (fun i _ => rfl) i hi)
    · by_cases g10 : g = 10
      · subst g10
        exact hV i _ (x9_at (lay a z b y, w2) (g := 10) (base := z + 162) (by decide) (fun i _ => rfl) i hi)
      · have hl : ∀ i, i < 16 → (lay a z b y, w2).1 g i = z + 17 + 1 + 16 * (g - 1) + i := by
          intro i _
          show lay a z b y g i = _
          unfold lay
          rw [if_neg (by omega), if_neg (by omega), if_neg g0, if_neg g10]
        have hx := List.mem_of_getElem? (x9_at (lay a z b y, w2) (by omega) hl i hi)
        have hx2 : ((lay a z b y, w2).1 g i, menc (lay a z b y, w2) g i (mFresh g i)) ∈ ws_X4 (lay a z b y, w2) (z + 16) (z + 17) :=
          List.mem_cons_of_mem _ (List.mem_cons_of_mem _ (List.mem_flatMap.mpr ⟨g - 1, List.mem_range.mpr (by omega), hx⟩))
        obtain ⟨k, hk⟩ := List.getElem?_of_mem hx2
        exact hHi k _ hk
  · rw [frf (by decide)]
    match i, hi1, hi2 with
    | 6, _, _ => exact hF 0 _ rfl
    | 7, _, _ => exact hF 1 _ rfl
    | 8, _, _ => exact hF 2 _ rfl
    | 9, _, _ => exact hF 3 _ rfl
    | 10, _, _ => exact hF 4 _ rfl
    | 11, _, _ => exact hF 5 _ rfl
    | n + 12, _, h => exact absurd h (by omega)
  · match i, hi1, hi2 with
    | 16, _, _ => exact hA 0 _ rfl
    | 17, _, _ => rw [frz (by decide)]; exact hHi 0 _ rfl
    | 18, _, _ => rw [frz (by decide)]; exact (hHi 1 _ rfl).refs (fun j hj => match j, hj with | 0, _ => rfl | 1, _ => rfl | 2, _ => rfl | 3, _ => rfl | 4, _ => rfl | 5, _ => rfl | 6, _ => rfl | 7, _ => rfl | 8, _ => rfl | n + 9, h => absurd h (by omega))
    | 19, _, _ => rw [frz (by decide)]; exact hS 0 _ rfl
    | 20, _, _ => rw [frz (by decide)]; exact (hS 1 _ rfl).refs (fun j hj => match j, hj with | 0, _ => rfl | 1, _ => rfl | 2, _ => rfl | n + 3, h => absurd h (by omega))
    | 21, _, _ => rw [frz (by decide)]; exact hS 2 _ rfl
    | 22, _, _ => rw [frz (by decide)]; exact hS 3 _ rfl
    | 23, _, _ => rw [frz (by decide)]; exact hS 4 _ rfl
    | 24, _, _ => rw [frz (by decide)]; exact hS 5 _ rfl
    | 25, _, _ => rw [frz (by decide)]; exact hS 6 _ rfl
    | 26, _, _ => rw [frz (by decide)]; exact hC 0 _ rfl
    | 27, _, _ => rw [frz (by decide)]; exact hC 1 _ rfl
    | 28, _, _ => exact (hC 2 _ rfl).refs (fun j _ => rfl)
    | 29, _, _ => rw [frz (by decide)]; exact (hC 3 _ rfl).refs (fun j hj => match j, hj with | 0, _ => rfl | 1, _ => rfl | 2, _ => rfl | 3, _ => rfl | 4, _ => rfl | 5, _ => rfl | 6, _ => rfl | 7, _ => rfl | 8, _ => rfl | 9, _ => rfl | 10, _ => rfl | 11, _ => rfl | 12, _ => rfl | 13, _ => rfl | 14, _ => rfl | n + 15, h => absurd h (by omega))
    | 30, _, _ => rw [frz (by decide)]; exact hC 4 _ rfl
    | 31, _, _ => rw [frz (by decide)]; exact hC 5 _ rfl
    | 32, _, _ => rw [frz (by decide)]; exact hC 6 _ rfl
    | 33, _, _ => rw [frz (by decide)]; exact hC 7 _ rfl
    | 34, _, _ => rw [frz (by decide)]; exact hC 8 _ rfl
    | 35, _, _ => rw [frz (by decide)]; exact hC 9 _ rfl
    | 36, _, _ => rw [frz (by decide)]; exact hC 10 _ rfl
    | 37, _, _ => rw [frz (by decide)]; exact hC 11 _ rfl
    | 38, _, _ => rw [frz (by decide)]; exact hC 12 _ rfl
    | 39, _, _ => rw [frz (by decide)]; exact hC 13 _ rfl
    | 40, _, _ => rw [frz (by decide)]; exact hC 14 _ rfl
    | 41, _, _ => rw [frz (by decide)]; exact hC 15 _ rfl
    | 42, _, _ => rw [frz (by decide)]; exact hC 16 _ rfl
    | 43, _, _ => rw [frz (by decide)]; exact hC 17 _ rfl
    | 44, _, _ => rw [frz (by decide)]; exact hC 18 _ rfl
    | 45, _, _ => rw [frz (by decide)]; exact hO 0 _ rfl
    | 46, _, _ => rw [frz (by decide)]; exact hO 1 _ rfl
    | n + 47, _, h => exact absurd h (by omega)
theorem mok_cases {g i : Nat} (hmem : mok g i) : (g < 11 ∧ i < 16) ∨ (g = 11 ∧ 6 ≤ i ∧ i < 12) ∨ (g = 12 ∧ 16 ≤ i ∧ i < 47) := by
  unfold mok mkeys at hmem
  rcases List.mem_append.mp hmem with h | h
  · obtain ⟨g', hg', h⟩ := List.mem_flatMap.mp h
    obtain ⟨i', hi', h⟩ := List.mem_map.mp h
    cases h
    exact Or.inl ⟨List.mem_range.mp hg', List.mem_range.mp hi'⟩
  · rcases List.mem_append.mp h with h | h
    · obtain ⟨i', hi', h⟩ := List.mem_map.mp h
      cases h
      have := List.mem_range.mp hi'
      exact Or.inr (Or.inl ⟨rfl, by omega, by omega⟩)
    · obtain ⟨i', hi', h⟩ := List.mem_map.mp h
      cases h
      have := List.mem_range.mp hi'
      exact Or.inr (Or.inr ⟨rfl, by omega, by omega⟩)
/-- where a cell of the memory lies, in a word -/
theorem lay_is {a z b y : Nat} {g i : Nat} (h : mok g i) : (g = 12 ∧ i = 16 ∧ lay a z b y g i = a) ∨ (g = 12 ∧ i = 47 ∧ lay a z b y g i = b) ∨ (g = 12 ∧ 48 ≤ i ∧ i < 57 ∧ lay a z b y g i = y + (i - 48)) ∨
    (∃ o, o < 212 ∧ lay a z b y g i = z + o ∧ (g = 12 ∧ (i = 17 ∨ i = 18) ∧ o = i - 1 ∨ g = 12 ∧ 19 ≤ i ∧ i < 47 ∧ o = 165 + i ∨ g = 11 ∧ 6 ≤ i ∧ i < 12 ∧ o = 172 + i ∨ g = 0 ∧ i < 16 ∧ o = i ∨ g = 10 ∧ i < 16 ∧ o = 162 + i ∨ 1 ≤ g ∧ g ≤ 9 ∧ i < 16 ∧ o = 18 + 16 * (g - 1) + i)) := by
  rcases mok_cases h with ⟨hg, hi⟩ | ⟨rfl, h1, h2⟩ | ⟨rfl, h1, h2⟩
  · refine Or.inr (Or.inr (Or.inr ?_))
    unfold lay
    rw [if_neg (by omega), if_neg (by omega)]
    by_cases g0 : g = 0
    · rw [if_pos g0]
      exact ⟨i, by omega, rfl, by omega⟩
    · rw [if_neg g0]
      by_cases g1 : g = 10
      · rw [if_pos g1]
        exact ⟨162 + i, by omega, by omega, by omega⟩
      · rw [if_neg g1]
        exact ⟨18 + 16 * (g - 1) + i, by omega, by omega, by omega⟩
  · exact Or.inr (Or.inr (Or.inr ⟨172 + i, by omega, rfl, by omega⟩))
  · show _ ∨ _ ∨ _ ∨ _
    have e : lay a z b y 12 i = if i = 16 then a else if i = 47 then b else if 48 ≤ i then y + (i - 48) else if i ≤ 18 then z + (i - 1) else z + (165 + i) := rfl
    rw [e]
    by_cases i1 : i = 16
    · rw [if_pos i1]; exact Or.inl ⟨rfl, i1, rfl⟩
    · rw [if_neg i1]
      by_cases i2 : i = 47
      · rw [if_pos i2]; exact Or.inr (Or.inl ⟨rfl, i2, rfl⟩)
      · rw [if_neg i2]
        by_cases i3 : 48 ≤ i
        · rw [if_pos i3]; exact Or.inr (Or.inr (Or.inl ⟨rfl, i3, by omega, rfl⟩))
        · rw [if_neg i3]
          by_cases i4 : i ≤ 18
          · rw [if_pos i4]; exact Or.inr (Or.inr (Or.inr ⟨i - 1, by omega, rfl, by omega⟩))
          · rw [if_neg i4]; exact Or.inr (Or.inr (Or.inr ⟨165 + i, by omega, rfl, by omega⟩))
theorem lay_mJ (w2 : va_G × ((Nat → ClassId) × (Nat → Nat → Nat))) {a z b y : Nat} (h1 : a < z) (h2 : z + 212 ≤ b) (h3 : b < y) : mJ (lay a z b y, w2) := by
  intro g i g' i' hm hm' he
  have he : lay a z b y g i = lay a z b y g' i' := he
  rcases lay_is (a := a) (z := z) (b := b) (y := y) hm with ⟨x1, x2, x3⟩ | ⟨x1, x2, x3⟩ | ⟨x1, x2, x4, x3⟩ | ⟨o, x1, x3, x2⟩ <;>
    rcases lay_is (a := a) (z := z) (b := b) (y := y) hm' with ⟨y1, y2, y3⟩ | ⟨y1, y2, y3⟩ | ⟨y1, y2, y4, y3⟩ | ⟨o', y1, y3, y2⟩ <;>
    rw [x3, y3] at he <;> omega
/-- where they all lie -/
theorem lay_ge {a z b y : Nat} (h1 : a < z) (h2 : z + 212 ≤ b) (h3 : b < y) {g i : Nat} (hm : mok g i) : a ≤ lay a z b y g i ∧ lay a z b y g i < y + 9 := by
  rcases lay_is (a := a) (z := z) (b := b) (y := y) hm with ⟨x1, x2, x3⟩ | ⟨x1, x2, x3⟩ | ⟨x1, x2, x4, x3⟩ | ⟨o, x1, x3, x2⟩ <;> rw [x3] <;> omega
