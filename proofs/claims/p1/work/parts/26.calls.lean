theorem LI_of {H : Nat} {α : Sp} (hi : Inv H α) : LI α := hi.2.2.2.2.2.2.2.2.2
theorem inv_log {α : Sp} {H k w : Nat} (hi : Inv H α) (hk : k = 97 ∨ k = 99 ∨ k = 102 ∨ k = 111) (hw : w ≤ 8) : Inv H (sLog α k w) := by
  have hl := LI_of hi
  obtain ⟨⟨b0, b1, b2, b3, b4, b5, b6, b7, b8, b9, b10, b11, b14⟩, i1, i2, bs, bk, bn, bz, bt, bg, bl⟩ := hi
  have s : ∀ j, j < 14 ∨ 15 ≤ j ∧ j < 56 → sLog α k w j = α j := fun j hj => sLog_ne b14 (by omega) (by omega)
  have hl2 := LI_log b14 hl hk hw
  refine ⟨⟨?_, ?_, ?_, ?_, ?_, ?_, ?_, ?_, ?_, ?_, ?_, ?_, sLog_14 b14⟩, ?_, ?_, fun k hk => ?_, fun k hk => ?_, fun i k h1 hk => ?_, fun k hk => ?_, ?_, fun k hk => ?_, hl2⟩
  · rw [s 0 (by decide)]; exact b0
  · rw [s 1 (by decide)]; exact b1
  · rw [s 2 (by decide)]; exact b2
  · rw [s 3 (by decide)]; exact b3
  · rw [s 4 (by decide)]; exact b4
  · rw [s 5 (by decide)]; exact b5
  · rw [s 6 (by decide)]; exact b6
  · rw [s 7 (by decide)]; exact b7
  · rw [s 8 (by decide)]; exact b8
  · rw [s 9 (by decide), s 0 (by decide)]; exact b9
  · rw [s 10 (by decide)]; exact b10
  · rw [s 11 (by decide)]; exact b11
  · rw [s 1 (by decide), s 6 (by decide), s 9 (by decide)]; exact i1
  · rw [s 1 (by decide), s 5 (by decide)]; exact i2
  · rw [s _ (by omega)]; exact bs k hk
  · rw [s 9 (by decide)] at hk
    rw [s _ (by omega), s 0 (by decide)]; exact bk k hk
  · rw [s 9 (by decide)] at hk
    rw [s (23 + i) (by omega), s (23 + k) (by omega)]; exact bn i k h1 hk
  · rw [s (31 + k) (by omega), s (39 + k) (by omega), s 11 (by decide)]; exact bz k hk
  · rw [s 13 (by decide), s 39 (by decide), s 40 (by decide), s 41 (by decide), s 42 (by decide), s 43 (by decide), s 44 (by decide), s 45 (by decide), s 46 (by decide)]; exact bt
  · rw [s 10 (by decide)] at hk
    rw [s (47 + 3 * k) (by omega), s (48 + 3 * k) (by omega), s (49 + 3 * k) (by omega)]; exact bg k hk
theorem inv_closeSp {α : Sp} {H : Nat} (hi : Inv H α) : Inv H (closeSp α) := by
  obtain ⟨⟨b0, b1, b2, b3, b4, b5, b6, b7, b8, b9, b10, b11, b14⟩, i1, i2, bs, bk, bn, bz, bt, bg, bl⟩ := hi
  have s : ∀ j, j ≠ 6 → j ≠ 9 → ¬ (23 ≤ j ∧ j < 31) → closeSp α j = α j := fun j h1 h2 h3 => by rw [closeSp_at, if_neg h1, if_neg h2, if_neg h3]
  have s6 : closeSp α 6 = 0 := by rw [closeSp_at, if_pos rfl]
  have s9 : closeSp α 9 = 0 := by rw [closeSp_at, if_neg (by decide), if_pos rfl]
  refine ⟨⟨?_, ?_, ?_, ?_, ?_, ?_, ?_, ?_, ?_, ?_, ?_, ?_, ?_⟩, ?_, ?_, fun k hk => ?_, fun k hk => ?_, fun i k h1 hk => ?_, fun k hk => ?_, ?_, fun k hk => ?_, fun k hk => ?_⟩
  · rw [s 0 (by decide) (by decide) (by decide)]; exact b0
  · rw [s 1 (by decide) (by decide) (by decide)]; exact b1
  · rw [s 2 (by decide) (by decide) (by decide)]; exact b2
  · rw [s 3 (by decide) (by decide) (by decide)]; exact b3
  · rw [s 4 (by decide) (by decide) (by decide)]; exact b4
  · rw [s 5 (by decide) (by decide) (by decide)]; exact b5
  · rw [s6]; decide
  · rw [s 7 (by decide) (by decide) (by decide)]; exact b7
  · rw [s 8 (by decide) (by decide) (by decide)]; exact b8
  · rw [s9]; omega
  · rw [s 10 (by decide) (by decide) (by decide)]; exact b10
  · rw [s 11 (by decide) (by decide) (by decide)]; exact b11
  · rw [s 14 (by decide) (by decide) (by decide)]; exact b14
  · intro _
    exact ⟨s6, s9⟩
  · rw [s 1 (by decide) (by decide) (by decide), s 5 (by decide) (by decide) (by decide)]; exact i2
  · rw [s _ (by omega) (by omega) (by omega)]; exact bs k hk
  · rw [s9] at hk; omega
  · rw [s9] at hk; omega
  · rw [s (31 + k) (by omega) (by omega) (by omega), s (39 + k) (by omega) (by omega) (by omega), s 11 (by decide) (by decide) (by decide)]; exact bz k hk
  · rw [s 13 (by decide) (by decide) (by decide), s 39 (by decide) (by decide) (by decide), s 40 (by decide) (by decide) (by decide), s 41 (by decide) (by decide) (by decide), s 42 (by decide) (by decide) (by decide), s 43 (by decide) (by decide) (by decide), s 44 (by decide) (by decide) (by decide), s 45 (by decide) (by decide) (by decide), s 46 (by decide) (by decide) (by decide)]; exact bt
  · rw [s 10 (by decide) (by decide) (by decide)] at hk
    rw [s (47 + 3 * k) (by omega) (by omega) (by omega), s (48 + 3 * k) (by omega) (by omega) (by omega), s (49 + 3 * k) (by omega) (by omega) (by omega)]; exact bg k hk
  · rw [s 14 (by decide) (by decide) (by decide)] at hk
    rw [s (56 + 3 * k) (by omega) (by omega) (by omega), s (57 + 3 * k) (by omega) (by omega) (by omega), s (58 + 3 * k) (by omega) (by omega) (by omega), s 11 (by decide) (by decide) (by decide)]; exact bl k hk
theorem inv_close {α : Sp} {H ans : Nat} {β : Sp} (hi : Inv H α) (he : sClose α = .inr (ans, β)) : Inv H β := by
  unfold sClose at he
  split at he
  · cases he
  · split at he
    · cases he
    · cases he
      exact inv_log (inv_closeSp hi) (by decide) (by decide)
theorem inv_hours {α : Sp} {H ans : Nat} {β : Sp} {a1 : Int32} (hi : Inv H α) (hH : H < 900000) (he : sHours α a1 = .inr (ans, β)) : Inv (H + 24) β := by
  unfold sHours at he
  rcases rng1_c a1 24 with ⟨n4, h4, h4', rfl, e4⟩ | ⟨e4, h4⟩
  case inr => rw [e4] at he; cases he
  rw [e4, if_pos rfl, nI_nat (show n4 < 2147483648 by omega)] at he
  cases he
  exact (inv_hrs hi n4 (by omega)).mono (by omega)
/-- what the law sees of a call: the class's outcome o, the model's answer r and the exception th that it tells; cat: the number of an exception in the law -/
def Ag (cat : Nat → Nat) (o : Nat ⊕ Int32) (r th : Int32) : Prop := match o with
  | .inl x => th = nI (cat x) ∧ 1 ≤ cat x ∧ cat x ≤ 3
  | .inr v => th = nI 0 ∧ v = r
/-- a call of both, in a row -/
def Pair (n : Nat) (cat : Nat → Nat) (M : Mem) (fc : Mem → Option ((Nat ⊕ Int32) × Mem)) (fm : Mem → Option (Int32 × Mem)) : Prop := wp (fc M) (fun o M1 => wp (fm M1) (fun r M2 => Rel (n + 1) M2 ∧ Ag cat o r (M2 12 47 0)))
theorem pair_op {n place c21 : Nat} {M : Mem} {e : Sp → Ex} {subj : Int32} {tr op : Mem → Option (Int32 × Mem)} {g : Int32 → Int32} {kc : Int32 → Mem → Option ((Nat ⊕ Int32) × Mem)} {km : Int32 → Mem → Option (Int32 × Mem)} {cat : Nat → Nat}
    (hr : Rel n M) (hn : n < 512) (hp : 1 ≤ place ∧ place ≤ 3) (hc21 : 1 ≤ c21 ∧ c21 ≤ 3)
    (hct : ∀ (M2 : Mem) (α : Sp) (H : Nat), RC (M2 0) α → Inv H α → H < 900000 → CT M2 subj (e α) (tr M2)) (hmt : ∀ (M2 : Mem) (α : Sp) (H : Nat), M2 12 48 = enc α → Inv H α → H < 900000 → MT M2 c21 (e α) (op M2))
    (hinv : ∀ α H ans β, Inv H α → H < 900000 → e α = .inr (ans, β) → Inv (H + 24) β) (hk : ∀ α k d, e α = .inl (k, d) → (1 ≤ k ∧ k ≤ 10 ∨ k = 20 ∨ k = 21) ∧ cat (exn k) = (if k = 20 then 1 else if k = 21 then c21 else place)) (hkc : ∀ r M1, kc r M1 = some (.inr (g r), M1)) (hkm : ∀ r M1, km r M1 = some (g r, M1)) :
    Pair n cat M (fun M => mbnd (f_X4_prepare 0 M) fun r1 M2 => (mbnd (tr M2) fun r3 M4 => (mbndx (f_X11_settle r3 subj M4) kc))) (fun M1 => mbnd (f_X12_remembers M1) fun r1 M2 => (mbnd (op M2) fun r3 M4 => (mbnd (f_X12_ends r3 (nI place) M4) km))) := by
  have h0 := rel_op (place := place) (c21 := c21) (gc := g) (gm := g) hr hn ⟨hp.1, Nat.le_trans hp.2 (by decide)⟩ ⟨hc21.1, Nat.le_trans hc21.2 (by decide)⟩ hct hmt hinv (fun α k d he => (hk α k d he).1) hkc hkm
  refine wp_mono h0 ?_
  intro o M1 hw
  refine wp_mono hw ?_
  rintro r M2 ⟨h1, α, H, -, ⟨ans, β, he, rfl, h2, rfl⟩ | ⟨k, d, he, rfl, h2⟩⟩
  · exact ⟨h1, h2, rfl⟩
  · refine ⟨h1, ?_⟩
    have := (hk α k d he).2
    show M2 12 47 0 = nI (cat (exn k)) ∧ 1 ≤ cat (exn k) ∧ cat (exn k) ≤ 3
    rw [this]
    refine ⟨h2, ?_⟩
    split
    · decide
    · split <;> omega
theorem pair_addHolder {n : Nat} {M : Mem} (hr : Rel n M) (hn : n < 512) : Pair n (fun x => if x = 3 then 1 else 0) M f_X11_addHolder f_X12_addHolder := by
  have h := pair_op (e := sAdd) (subj := nI 8) (tr := f_X9_tryHolder 0) (op := f_X12_adds) (g := id) (kc := fun r M => some (.inr r, M)) (km := fun r M => some (r, M)) (cat := fun x => if x = 3 then 1 else 0) (place := 1) (c21 := 1) hr hn (by decide) (by decide) (fun M2 α H a b _ => c_add a b) (fun M2 α H a b _ => m_add a b) (fun α H ans β a _ b => (inv_add a b).mono (by omega)) (fun α k d he => by
    unfold sAdd at he
    split at he
    · cases he; exact ⟨by decide, rfl⟩
    · cases he) (fun _ _ => rfl) (fun _ _ => rfl)
  exact h
theorem pair_seal {n : Nat} {M : Mem} (hr : Rel n M) (hn : n < 512) (a1 a2 a3 a4 : Int32) : Pair n (fun x => if x = 2 then 1 else if x = 3 then 2 else 0) M (f_X11_seal a1 a2 a3 a4) (f_X12_seal a1 a2 a3 a4) := by
  have h := pair_op (e := fun α => sSeal α a1 a2 a3 a4) (subj := nI 0) (tr := f_X9_trySeal 0 a1 a2 a3 a4) (op := f_X12_seals a1 a2 a3 a4) (g := id) (kc := fun r M => some (.inr r, M)) (km := fun r M => some (r, M)) (cat := fun x => if x = 2 then 1 else if x = 3 then 2 else 0) (place := 2) (c21 := 1) hr hn (by decide) (by decide) (fun M2 α H a b _ => c_seal a b a1 a2 a3 a4) (fun M2 α H a b _ => m_seal a b a1 a2 a3 a4) (fun α H ans β a _ b => (inv_seal a b).mono (by omega)) (fun α k d he => by
    unfold sSeal at he
    split at he
    · split at he
      · cases he; exact ⟨by decide, rfl⟩
      · cases he
    · cases he; exact ⟨by decide, rfl⟩) (fun _ _ => rfl) (fun _ _ => rfl)
  exact h
theorem pair_setShare {n : Nat} {M : Mem} (hr : Rel n M) (hn : n < 512) (a1 a2 : Int32) : Pair n (fun x => if x = 1 then 1 else if x = 2 then 2 else if x = 3 then 3 else 0) M (f_X11_setShare a1 a2) (f_X12_setShare a1 a2) := by
  have h := pair_op (e := fun α => sShare α a1 a2) (subj := a1) (tr := f_X9_tryShare 0 a1 a2) (op := f_X12_shares a1 a2) (g := id) (kc := fun r M => some (.inr r, M)) (km := fun r M => some (r, M)) (cat := fun x => if x = 1 then 1 else if x = 2 then 2 else if x = 3 then 3 else 0) (place := 3) (c21 := 2) hr hn (by decide) (by decide) (fun M2 α H a b _ => c_share a b a1 a2) (fun M2 α H a b _ => m_shares a b a1 a2) (fun α H ans β a _ b => (inv_share a b).mono (by omega)) (fun α k d he => by
    unfold sShare at he
    split at he
    · split at he
      · split at he
        · cases he; exact ⟨by decide, rfl⟩
        · cases he
      · cases he; exact ⟨by decide, rfl⟩
    · cases he; exact ⟨by decide, rfl⟩) (fun _ _ => rfl) (fun _ _ => rfl)
  exact h
theorem pair_present {n : Nat} {M : Mem} (hr : Rel n M) (hn : n < 512) (a1 : Int32) : Pair n (fun x => if x = 1 then 1 else if x = 3 then 2 else 0) M (f_X11_present a1) (f_X12_present a1) := by
  have h := pair_op (e := fun α => sGive α a1) (subj := a1) (tr := f_X9_tryPresent 0 a1) (op := f_X12_presents a1) (g := id) (kc := fun r M => some (.inr r, M)) (km := fun r M => some (r, M)) (cat := fun x => if x = 1 then 1 else if x = 3 then 2 else 0) (place := 2) (c21 := 1) hr hn (by decide) (by decide) (fun M2 α H a b _ => c_give a b a1) (fun M2 α H a b _ => m_presents a b a1) (fun α H ans β a _ b => (inv_give a b).mono (by omega)) (fun α k d he => by
    unfold sGive at he
    split at he
    · split at he
      · cases he; exact ⟨by decide, rfl⟩
      · split at he
        · cases he; exact ⟨by decide, rfl⟩
        · cases he
    · cases he; exact ⟨by decide, rfl⟩) (fun _ _ => rfl) (fun _ _ => rfl)
  exact h
theorem pair_takeBack {n : Nat} {M : Mem} (hr : Rel n M) (hn : n < 512) (a1 : Int32) : Pair n (fun x => if x = 1 then 1 else if x = 3 then 2 else 0) M (f_X11_takeBack a1) (f_X12_takeBack a1) := by
  have h := pair_op (e := fun α => sBack α a1) (subj := a1) (tr := f_X9_tryTakeBack 0 a1) (op := f_X12_takes a1) (g := id) (kc := fun r M => some (.inr r, M)) (km := fun r M => some (r, M)) (cat := fun x => if x = 1 then 1 else if x = 3 then 2 else 0) (place := 2) (c21 := 1) hr hn (by decide) (by decide) (fun M2 α H a b _ => c_back a b a1) (fun M2 α H a b _ => m_takes a b a1) (fun α H ans β a _ b => (inv_back a b).mono (by omega)) (fun α k d he => by
    unfold sBack at he
    split at he
    · split at he
      · cases he; exact ⟨by decide, rfl⟩
      · split at he
        · cases he; exact ⟨by decide, rfl⟩
        · cases he
    · cases he; exact ⟨by decide, rfl⟩) (fun _ _ => rfl) (fun _ _ => rfl)
  exact h
theorem pair_closeVault {n : Nat} {M : Mem} (hr : Rel n M) (hn : n < 512) : Pair n (fun x => if x = 3 then 1 else 0) M f_X11_closeVault f_X12_closeVault := by
  have h := pair_op (e := sClose) (subj := nI 0) (tr := f_X9_tryClose 0) (op := f_X12_closes) (g := id) (kc := fun r M => some (.inr r, M)) (km := fun r M => some (r, M)) (cat := fun x => if x = 3 then 1 else 0) (place := 1) (c21 := 1) hr hn (by decide) (by decide) (fun M2 α H a b _ => c_close a b) (fun M2 α H a b _ => m_closes a b) (fun α H ans β a _ b => (inv_close a b).mono (by omega)) (fun α k d he => by
    unfold sClose at he
    split at he
    · cases he; exact ⟨by decide, rfl⟩
    · split at he
      · cases he; exact ⟨by decide, rfl⟩
      · cases he) (fun _ _ => rfl) (fun _ _ => rfl)
  exact h
theorem pair_addGuard {n b : Nat} {M : Mem} (hr : Rel n M) (hn : n < 512) (hb : b < 2) (a1 a3 : Int32) : Pair n (fun x => if x = 2 then 1 else if x = 3 then 2 else 0) M (f_X11_addGuard a1 (nI b) a3) (f_X12_addGuard a1 (nI b) a3) := by
  have h := pair_op (e := fun α => sGuard α a1 (nI b) a3) (subj := nI 3) (tr := f_X9_tryGuard 0 a1 (nI b) a3) (op := f_X12_guards a1 (nI b) a3) (g := id) (kc := fun r M => some (.inr r, M)) (km := fun r M => some (r, M)) (cat := fun x => if x = 2 then 1 else if x = 3 then 2 else 0) (place := 2) (c21 := 1) hr hn (by decide) (by decide) (fun M2 α H a b _ => c_guard a b a1 a3 hb) (fun M2 α H a b _ => m_guards a b a1 a3 hb) (fun α H ans β a _ b => (inv_guard hb a b).mono (by omega)) (fun α k d he => by
    unfold sGuard at he
    split at he
    · split at he
      · cases he; exact ⟨by decide, rfl⟩
      · cases he
    · cases he; exact ⟨by decide, rfl⟩) (fun _ _ => rfl) (fun _ _ => rfl)
  exact h
theorem pair_turnGuard {n : Nat} {M : Mem} (hr : Rel n M) (hn : n < 512) (a1 : Int32) : Pair n (fun x => if x = 1 then 1 else 0) M (f_X11_turnGuard a1) (f_X12_turnGuard a1) := by
  have h := pair_op (e := fun α => sTurn α a1) (subj := nI 0) (tr := f_X9_tryTurn 0 a1) (op := f_X12_turns a1) (g := fun r => if r = 1 then 1 else 0) (kc := fun r M => if r = (1 : Int32) then some (.inr (1 : Int32), M) else some (.inr (0 : Int32), M)) (km := fun r M => if r = (1 : Int32) then some ((1 : Int32), M) else some ((0 : Int32), M)) (cat := fun x => if x = 1 then 1 else 0) (place := 2) (c21 := 1) hr hn (by decide) (by decide) (fun M2 α H a b _ => c_turn a b a1) (fun M2 α H a b _ => m_turns a b a1) (fun α H ans β a _ b => (inv_turn a b).mono (by omega)) (fun α k d he => by
    unfold sTurn at he
    split at he
    · cases he
    · cases he; exact ⟨by decide, rfl⟩) (fun r M => by show (if r = 1 then _ else _) = _; split <;> rfl) (fun r M => by show (if r = 1 then _ else _) = _; split <;> rfl)
  exact h
theorem pair_hum {n : Nat} {M : Mem} (hr : Rel n M) (hn : n < 512) (a1 a2 : Int32) : Pair n (fun x => if x = 2 then 1 else 0) M (f_X11_hum a1 a2) (f_X12_hum a1 a2) := by
  have h := pair_op (e := fun α => sHum α a1 a2) (subj := nI 0) (tr := f_X9_tryHum 0 a1 a2) (op := f_X12_hums a1 a2) (g := id) (kc := fun r M => some (.inr r, M)) (km := fun r M => some (r, M)) (cat := fun x => if x = 2 then 1 else 0) (place := 2) (c21 := 1) hr hn (by decide) (by decide) (fun M2 α H a b _ => c_hum a b a1 a2) (fun M2 α H a b _ => m_hums a b a1 a2) (fun α H ans β a _ b => (inv_hum a b).mono (by omega)) (fun α k d he => by
    unfold sHum at he
    split at he
    · cases he
    · cases he; exact ⟨by decide, rfl⟩) (fun _ _ => rfl) (fun _ _ => rfl)
  exact h
theorem pair_passHours {n : Nat} {M : Mem} (hr : Rel n M) (hn : n < 512) (a1 : Int32) : Pair n (fun x => if x = 2 then 1 else 0) M (f_X11_passHours a1) (f_X12_passHours a1) := by
  have h := pair_op (e := fun α => sHours α a1) (subj := nI 0) (tr := f_X9_tryHours 0 a1) (op := f_X12_passes a1) (g := id) (kc := fun r M => some (.inr r, M)) (km := fun r M => some (r, M)) (cat := fun x => if x = 2 then 1 else 0) (place := 2) (c21 := 1) hr hn (by decide) (by decide) (fun M2 α H a b c => c_hours a b c a1) (fun M2 α H a b c => m_passes a b c a1) (fun α H ans β a c b => inv_hours a c b) (fun α k d he => by
    unfold sHours at he
    split at he
    · cases he
    · cases he; exact ⟨by decide, rfl⟩) (fun _ _ => rfl) (fun _ _ => rfl)
  exact h
