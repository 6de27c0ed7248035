/-! THE CLASS ALONE: what its recorded calls do -/
/-- the ring of what can be undone -/
def RH (M : Mem) (αh : Nat → Sp) (K nx : Nat) : Prop := nx < 9 ∧ K ≤ 8 ∧ M 12 17 1 = nI nx ∧ M 12 17 2 = nI K ∧ ∀ k, k < K → RC (M (1 + (nx + 9 - K + k) % 9)) (αh k)
/-- the class's state, what it can undo, no input -/
def RZ (M : Mem) (α : Sp) (αh : Nat → Sp) (K nx : Nat) : Prop := RC (M 0) α ∧ RH M αh K nx ∧ M 12 26 1 = nI 0
theorem RH_push {M M2 : Mem} {α : Sp} {αh : Nat → Sp} {K nx : Nat} (h : RH M αh K nx) (hp : RC (M2 (1 + nx)) α) (e1 : M2 12 17 1 = nI ((nx + 1) % 9)) (e2 : M2 12 17 2 = nI (minK K)) (hg : ∀ a, 1 ≤ a → a ≤ 9 → a ≠ 1 + nx → M2 a = M a) : RH M2 (pushH αh K α) (minK K) ((nx + 1) % 9) := by
  obtain ⟨h1, h2, h3, h4, h6⟩ := h
  have hm : minK K ≤ 8 := by unfold minK; split <;> omega
  refine ⟨by omega, hm, e1, e2, fun k hk => ?_⟩
  unfold pushH
  by_cases h8 : K = 8
  · have em : minK K = 8 := by unfold minK; rw [if_pos h8]
    rw [em] at hk ⊢
    rw [if_pos h8]
    by_cases q : k = 7
    · rw [if_pos q, show 1 + ((nx + 1) % 9 + 9 - 8 + k) % 9 = 1 + nx by omega]
      exact hp
    · rw [if_neg q, show 1 + ((nx + 1) % 9 + 9 - 8 + k) % 9 = 1 + (nx + 9 - K + (k + 1)) % 9 by omega, hg _ (by omega) (by omega) (by omega)]
      exact h6 (k + 1) (by omega)
  · have em : minK K = K + 1 := by unfold minK; rw [if_neg h8]
    rw [em] at hk ⊢
    rw [if_neg h8]
    by_cases q : k = K
    · rw [if_pos q, show 1 + ((nx + 1) % 9 + 9 - (K + 1) + k) % 9 = 1 + nx by omega]
      exact hp
    · rw [if_neg q, show 1 + ((nx + 1) % 9 + 9 - (K + 1) + k) % 9 = 1 + (nx + 9 - K + k) % 9 by omega, hg _ (by omega) (by omega) (by omega)]
      exact h6 k (by omega)
theorem RH_same {M M2 : Mem} {αh : Nat → Sp} {K nx : Nat} (h : RH M αh K nx) (e1 : M2 12 17 = M 12 17) (hg : ∀ a, 1 ≤ a → a ≤ 9 → a ≠ 1 + nx → M2 a = M a) : RH M2 αh K nx := by
  obtain ⟨h1, h2, h3, h4, h6⟩ := h
  refine ⟨h1, h2, by rw [e1]; exact h3, by rw [e1]; exact h4, fun k hk => ?_⟩
  rw [hg _ (by omega) (by omega) (by omega)]
  exact h6 k hk
theorem RZ.keep {M M1 : Mem} {α : Sp} {αh : Nat → Sp} {K nx : Nat} (h : RZ M α αh K nx) (k : Kp M M1) : RZ M1 α αh K nx :=
  ⟨k.R h.1, RH_same h.2.1 (k.2 17 (by decide)) (fun a _ h2 _ => k.1 a (by omega)), by rw [k.2 26 (by decide)]; exact h.2.2⟩
theorem g_undoCount {M : Mem} {α : Sp} {αh : Nat → Sp} {K nx : Nat} (h : RZ M α αh K nx) : f_X11_undoCount M = some (nI K) := Eq.trans rfl (congrArg some h.2.1.2.2.2.1)
theorem z_call {M : Mem} {α : Sp} {αh : Nat → Sp} {K nx : Nat} {e : Ex} {subj : Int32} {tr : Mem → Option (Int32 × Mem)} {g : Int32 → Int32} {kc : Int32 → Mem → Option ((Nat ⊕ Int32) × Mem)} (hz : RZ M α αh K nx) (b1 : α 1 ≤ 1) (b6 : α 6 ≤ 1) (hct : ∀ M2, RC (M2 0) α → CT M2 subj e (tr M2))
    (hk : ∀ k d, e = .inl (k, d) → 1 ≤ k ∧ k ≤ 10 ∨ k = 20 ∨ k = 21) (hkc : ∀ r M1, kc r M1 = some (.inr (g r), M1)) :
    wp (mbnd (f_X4_prepare 0 M) fun r1 M2 => (mbnd (tr M2) fun r3 M4 => (mbndx (f_X11_settle r3 subj M4) kc))) fun o M1 => (∃ ans β, e = .inr (ans, β) ∧ o = .inr (g (nI ans)) ∧ RZ M1 β (pushH αh K α) (minK K) ((nx + 1) % 9)) ∨ (∃ k d, e = .inl (k, d) ∧ o = .inl (exn k) ∧ RZ M1 α αh K nx) := by
  obtain ⟨hR, hH, hF⟩ := hz
  obtain ⟨x1, x2, x3, x4, x6⟩ := id hH
  refine cls_call (α := α) (e := e) x1 x2 x3 x4 hR b1 b6 hct ?_ ?_
  · intro ans β he M1 ⟨a1, a2, a3, a4, a5⟩
    rw [hkc, wp_some]
    refine Or.inl ⟨ans, β, he, rfl, a1, RH_push hH a2 a3 a4 (fun a q1 q2 q3 => ?_), ?_⟩
    · funext b
      exact a5 a b (by omega) q3 (by omega)
    · rw [a5 12 26 (by decide) (by omega) (by decide)]; exact hF
  · intro k d he
    refine ⟨hk k d he, fun M1 h => Or.inr ⟨k, d, he, rfl, ?_, RH_same hH ?_ (fun a q1 q2 q3 => ?_), ?_⟩⟩
    · rw [h.1]; exact hR
    · exact h.2.2 12 17 (by decide) (by omega) (by decide)
    · funext b
      exact h.2.2 a b (by omega) q3 (by omega)
    · rw [h.2.2 12 26 (by decide) (by omega) (by decide)]; exact hF
/-- what the law sees of a recorded call: done, or refused with a number below -70 -/
def Zop (α : Sp) (αh : Nat → Sp) (K nx : Nat) (e : Ex) (x : Option (Int32 × Mem)) : Prop := ∃ r M1, x = some (r, M1) ∧ ((∃ ans β, e = .inr (ans, β) ∧ r = nI ans ∧ RZ M1 β (pushH αh K α) (minK K) ((nx + 1) % 9)) ∨ ((∃ kd, e = .inl kd) ∧ (∃ c, 71 ≤ c ∧ c ≤ 79 ∧ r = -nI c) ∧ RZ M1 α αh K nx))
section MODS
variable {M : Mem} {α : Sp} {αh : Nat → Sp} {K nx H : Nat}
theorem z_addHolder (hz : RZ M α αh K nx) (hi : Inv H α)  : Zop α αh K nx (sAdd α) (f_L_addHolder  M) := by
  have h := z_call (e := sAdd α) (subj := nI 8) (tr := f_X9_tryHolder 0) (g := id) (kc := fun r M => some (.inr r, M)) hz hi.1.2.1 hi.1.2.2.2.2.2.2.1 (fun M2 h => c_add h hi) (fun k d he => by
    unfold sAdd at he
    (repeat' split at he) <;> cases he <;> omega) (fun _ _ => rfl)
  have hx : ∀ k d, sAdd α = .inl (k, d) → exn k = 3 := fun k d he => by
    unfold sAdd at he
    (repeat' split at he) <;> cases he <;> decide
  obtain ⟨r, M1, e1, h1⟩ := h
  have e2 : f_X11_addHolder  M = some (r, M1) := e1
  unfold f_L_addHolder
  rw [e2]
  rcases h1 with ⟨ans, β, he, rfl, h2⟩ | ⟨k, d, he, rfl, h2⟩
  · exact ⟨nI ans, M1, rfl, Or.inl ⟨ans, β, he, rfl, h2⟩⟩
  · rcases (hx k d he) with q <;> rw [q]
    · exact ⟨-nI 76, M1, rfl, Or.inr ⟨⟨_, he⟩, ⟨76, by decide, by decide, rfl⟩, h2⟩⟩
theorem z_seal (hz : RZ M α αh K nx) (hi : Inv H α) (a1 a2 a3 a4 : Int32) : Zop α αh K nx (sSeal α a1 a2 a3 a4) (f_L_seal a1 a2 a3 a4 M) := by
  have h := z_call (e := sSeal α a1 a2 a3 a4) (subj := nI 0) (tr := f_X9_trySeal 0 a1 a2 a3 a4) (g := id) (kc := fun r M => some (.inr r, M)) hz hi.1.2.1 hi.1.2.2.2.2.2.2.1 (fun M2 h => c_seal h hi a1 a2 a3 a4) (fun k d he => by
    unfold sSeal at he
    (repeat' split at he) <;> cases he <;> omega) (fun _ _ => rfl)
  have hx : ∀ k d, sSeal α a1 a2 a3 a4 = .inl (k, d) → exn k = 2 ∨ exn k = 3 := fun k d he => by
    unfold sSeal at he
    (repeat' split at he) <;> cases he <;> decide
  obtain ⟨r, M1, e1, h1⟩ := h
  have e2 : f_X11_seal a1 a2 a3 a4 M = some (r, M1) := e1
  unfold f_L_seal
  rw [e2]
  rcases h1 with ⟨ans, β, he, rfl, h2⟩ | ⟨k, d, he, rfl, h2⟩
  · exact ⟨nI ans, M1, rfl, Or.inl ⟨ans, β, he, rfl, h2⟩⟩
  · rcases (hx k d he) with q | q <;> rw [q]
    · exact ⟨-nI 78, M1, rfl, Or.inr ⟨⟨_, he⟩, ⟨78, by decide, by decide, rfl⟩, h2⟩⟩
    · exact ⟨-nI 76, M1, rfl, Or.inr ⟨⟨_, he⟩, ⟨76, by decide, by decide, rfl⟩, h2⟩⟩
theorem z_setShare (hz : RZ M α αh K nx) (hi : Inv H α) (a1 a2 : Int32) : Zop α αh K nx (sShare α a1 a2) (f_L_setShare a1 a2 M) := by
  have h := z_call (e := sShare α a1 a2) (subj := a1) (tr := f_X9_tryShare 0 a1 a2) (g := id) (kc := fun r M => some (.inr r, M)) hz hi.1.2.1 hi.1.2.2.2.2.2.2.1 (fun M2 h => c_share h hi a1 a2) (fun k d he => by
    unfold sShare at he
    (repeat' split at he) <;> cases he <;> omega) (fun _ _ => rfl)
  have hx : ∀ k d, sShare α a1 a2 = .inl (k, d) → exn k = 1 ∨ exn k = 2 ∨ exn k = 3 := fun k d he => by
    unfold sShare at he
    (repeat' split at he) <;> cases he <;> decide
  obtain ⟨r, M1, e1, h1⟩ := h
  have e2 : f_X11_setShare a1 a2 M = some (r, M1) := e1
  unfold f_L_setShare
  rw [e2]
  rcases h1 with ⟨ans, β, he, rfl, h2⟩ | ⟨k, d, he, rfl, h2⟩
  · exact ⟨nI ans, M1, rfl, Or.inl ⟨ans, β, he, rfl, h2⟩⟩
  · rcases (hx k d he) with q | q | q <;> rw [q]
    · exact ⟨-nI 77, M1, rfl, Or.inr ⟨⟨_, he⟩, ⟨77, by decide, by decide, rfl⟩, h2⟩⟩
    · exact ⟨-nI 78, M1, rfl, Or.inr ⟨⟨_, he⟩, ⟨78, by decide, by decide, rfl⟩, h2⟩⟩
    · exact ⟨-nI 76, M1, rfl, Or.inr ⟨⟨_, he⟩, ⟨76, by decide, by decide, rfl⟩, h2⟩⟩
theorem z_present (hz : RZ M α αh K nx) (hi : Inv H α) (a1 : Int32) : Zop α αh K nx (sGive α a1) (f_L_present a1 M) := by
  have h := z_call (e := sGive α a1) (subj := a1) (tr := f_X9_tryPresent 0 a1) (g := id) (kc := fun r M => some (.inr r, M)) hz hi.1.2.1 hi.1.2.2.2.2.2.2.1 (fun M2 h => c_give h hi a1) (fun k d he => by
    unfold sGive at he
    (repeat' split at he) <;> cases he <;> omega) (fun _ _ => rfl)
  have hx : ∀ k d, sGive α a1 = .inl (k, d) → exn k = 1 ∨ exn k = 3 := fun k d he => by
    unfold sGive at he
    (repeat' split at he) <;> cases he <;> decide
  obtain ⟨r, M1, e1, h1⟩ := h
  have e2 : f_X11_present a1 M = some (r, M1) := e1
  unfold f_L_present
  rw [e2]
  rcases h1 with ⟨ans, β, he, rfl, h2⟩ | ⟨k, d, he, rfl, h2⟩
  · exact ⟨nI ans, M1, rfl, Or.inl ⟨ans, β, he, rfl, h2⟩⟩
  · rcases (hx k d he) with q | q <;> rw [q]
    · exact ⟨-nI 77, M1, rfl, Or.inr ⟨⟨_, he⟩, ⟨77, by decide, by decide, rfl⟩, h2⟩⟩
    · exact ⟨-nI 76, M1, rfl, Or.inr ⟨⟨_, he⟩, ⟨76, by decide, by decide, rfl⟩, h2⟩⟩
theorem z_takeBack (hz : RZ M α αh K nx) (hi : Inv H α) (a1 : Int32) : Zop α αh K nx (sBack α a1) (f_L_takeBack a1 M) := by
  have h := z_call (e := sBack α a1) (subj := a1) (tr := f_X9_tryTakeBack 0 a1) (g := id) (kc := fun r M => some (.inr r, M)) hz hi.1.2.1 hi.1.2.2.2.2.2.2.1 (fun M2 h => c_back h hi a1) (fun k d he => by
    unfold sBack at he
    (repeat' split at he) <;> cases he <;> omega) (fun _ _ => rfl)
  have hx : ∀ k d, sBack α a1 = .inl (k, d) → exn k = 1 ∨ exn k = 3 := fun k d he => by
    unfold sBack at he
    (repeat' split at he) <;> cases he <;> decide
  obtain ⟨r, M1, e1, h1⟩ := h
  have e2 : f_X11_takeBack a1 M = some (r, M1) := e1
  unfold f_L_takeBack
  rw [e2]
  rcases h1 with ⟨ans, β, he, rfl, h2⟩ | ⟨k, d, he, rfl, h2⟩
  · exact ⟨nI ans, M1, rfl, Or.inl ⟨ans, β, he, rfl, h2⟩⟩
  · rcases (hx k d he) with q | q <;> rw [q]
    · exact ⟨-nI 77, M1, rfl, Or.inr ⟨⟨_, he⟩, ⟨77, by decide, by decide, rfl⟩, h2⟩⟩
    · exact ⟨-nI 76, M1, rfl, Or.inr ⟨⟨_, he⟩, ⟨76, by decide, by decide, rfl⟩, h2⟩⟩
theorem z_closeVault (hz : RZ M α αh K nx) (hi : Inv H α)  : Zop α αh K nx (sClose α) (f_L_closeVault  M) := by
  have h := z_call (e := sClose α) (subj := nI 0) (tr := f_X9_tryClose 0) (g := id) (kc := fun r M => some (.inr r, M)) hz hi.1.2.1 hi.1.2.2.2.2.2.2.1 (fun M2 h => c_close h hi) (fun k d he => by
    unfold sClose at he
    (repeat' split at he) <;> cases he <;> omega) (fun _ _ => rfl)
  have hx : ∀ k d, sClose α = .inl (k, d) → exn k = 3 := fun k d he => by
    unfold sClose at he
    (repeat' split at he) <;> cases he <;> decide
  obtain ⟨r, M1, e1, h1⟩ := h
  have e2 : f_X11_closeVault  M = some (r, M1) := e1
  unfold f_L_closeVault
  rw [e2]
  rcases h1 with ⟨ans, β, he, rfl, h2⟩ | ⟨k, d, he, rfl, h2⟩
  · exact ⟨nI ans, M1, rfl, Or.inl ⟨ans, β, he, rfl, h2⟩⟩
  · rcases (hx k d he) with q <;> rw [q]
    · exact ⟨-nI 76, M1, rfl, Or.inr ⟨⟨_, he⟩, ⟨76, by decide, by decide, rfl⟩, h2⟩⟩
theorem z_hum (hz : RZ M α αh K nx) (hi : Inv H α) (a1 a2 : Int32) : Zop α αh K nx (sHum α a1 a2) (f_L_hum a1 a2 M) := by
  have h := z_call (e := sHum α a1 a2) (subj := nI 0) (tr := f_X9_tryHum 0 a1 a2) (g := id) (kc := fun r M => some (.inr r, M)) hz hi.1.2.1 hi.1.2.2.2.2.2.2.1 (fun M2 h => c_hum h hi a1 a2) (fun k d he => by
    unfold sHum at he
    (repeat' split at he) <;> cases he <;> omega) (fun _ _ => rfl)
  have hx : ∀ k d, sHum α a1 a2 = .inl (k, d) → exn k = 2 := fun k d he => by
    unfold sHum at he
    (repeat' split at he) <;> cases he <;> decide
  obtain ⟨r, M1, e1, h1⟩ := h
  have e2 : f_X11_hum a1 a2 M = some (r, M1) := e1
  unfold f_L_hum
  rw [e2]
  rcases h1 with ⟨ans, β, he, rfl, h2⟩ | ⟨k, d, he, rfl, h2⟩
  · exact ⟨nI ans, M1, rfl, Or.inl ⟨ans, β, he, rfl, h2⟩⟩
  · rcases (hx k d he) with q <;> rw [q]
    · exact ⟨-nI 78, M1, rfl, Or.inr ⟨⟨_, he⟩, ⟨78, by decide, by decide, rfl⟩, h2⟩⟩
theorem z_passHours (hz : RZ M α αh K nx) (hi : Inv H α) (hH : H < 900000) (a1 : Int32) : Zop α αh K nx (sHours α a1) (f_L_passHours a1 M) := by
  have h := z_call (e := sHours α a1) (subj := nI 0) (tr := f_X9_tryHours 0 a1) (g := id) (kc := fun r M => some (.inr r, M)) hz hi.1.2.1 hi.1.2.2.2.2.2.2.1 (fun M2 h => c_hours h hi hH a1) (fun k d he => by
    unfold sHours at he
    (repeat' split at he) <;> cases he <;> omega) (fun _ _ => rfl)
  have hx : ∀ k d, sHours α a1 = .inl (k, d) → exn k = 2 := fun k d he => by
    unfold sHours at he
    (repeat' split at he) <;> cases he <;> decide
  obtain ⟨r, M1, e1, h1⟩ := h
  have e2 : f_X11_passHours a1 M = some (r, M1) := e1
  unfold f_L_passHours
  rw [e2]
  rcases h1 with ⟨ans, β, he, rfl, h2⟩ | ⟨k, d, he, rfl, h2⟩
  · exact ⟨nI ans, M1, rfl, Or.inl ⟨ans, β, he, rfl, h2⟩⟩
  · rcases (hx k d he) with q <;> rw [q]
    · exact ⟨-nI 78, M1, rfl, Or.inr ⟨⟨_, he⟩, ⟨78, by decide, by decide, rfl⟩, h2⟩⟩
theorem z_openVault (hz : RZ M α αh K nx) (hi : Inv H α)  : Zop α αh K nx (sOpen α) (f_L_openVault  M) := by
  have h := z_call (e := sOpen α) (subj := nI 0) (tr := f_X9_tryOpen 0) (g := fun r => if r = 1 then 1 else 0) (kc := fun r M => if r = (1 : Int32) then some (.inr (1 : Int32), M) else some (.inr (0 : Int32), M)) hz hi.1.2.1 hi.1.2.2.2.2.2.2.1 (fun M2 h => c_open h hi) (fun k d he => by
    unfold sOpen at he
    (repeat' split at he) <;> cases he <;> omega) (fun r M => by show (if r = 1 then _ else _) = _; split <;> rfl)
  have hx : ∀ k d, sOpen α = .inl (k, d) → exn k = 3 := fun k d he => by
    unfold sOpen at he
    (repeat' split at he) <;> cases he <;> decide
  have ha : ∀ ans β, sOpen α = .inr (ans, β) → ans = 0 ∨ ans = 1 := fun ans β he => by
    unfold sOpen at he
    (repeat' split at he) <;> cases he <;> simp
  obtain ⟨r, M1, e1, h1⟩ := h
  have e2 : f_X11_openVault  M = some (r, M1) := e1
  unfold f_L_openVault
  rw [e2]
  rcases h1 with ⟨ans, β, he, rfl, h2⟩ | ⟨k, d, he, rfl, h2⟩
  · refine ⟨nI ans, M1, ?_, Or.inl ⟨ans, β, he, rfl, h2⟩⟩
    rcases ha ans β he with rfl | rfl <;> rfl
  · rcases (hx k d he) with q <;> rw [q]
    · exact ⟨-nI 76, M1, rfl, Or.inr ⟨⟨_, he⟩, ⟨76, by decide, by decide, rfl⟩, h2⟩⟩
theorem z_turnGuard (hz : RZ M α αh K nx) (hi : Inv H α) (a1 : Int32) : Zop α αh K nx (sTurn α a1) (f_L_turnGuard a1 M) := by
  have h := z_call (e := sTurn α a1) (subj := nI 0) (tr := f_X9_tryTurn 0 a1) (g := fun r => if r = 1 then 1 else 0) (kc := fun r M => if r = (1 : Int32) then some (.inr (1 : Int32), M) else some (.inr (0 : Int32), M)) hz hi.1.2.1 hi.1.2.2.2.2.2.2.1 (fun M2 h => c_turn h hi a1) (fun k d he => by
    unfold sTurn at he
    (repeat' split at he) <;> cases he <;> omega) (fun r M => by show (if r = 1 then _ else _) = _; split <;> rfl)
  have hx : ∀ k d, sTurn α a1 = .inl (k, d) → exn k = 1 := fun k d he => by
    unfold sTurn at he
    (repeat' split at he) <;> cases he <;> decide
  have ha : ∀ ans β, sTurn α a1 = .inr (ans, β) → ans = 0 ∨ ans = 1 := fun ans β he => by
    unfold sTurn at he
    split at he
    · rename_i q
      rcases idx_c a1 (α 10) (by have := hi.1.2.2.2.2.2.2.2.2.2.2.1; omega) with ⟨j, h1, rfl, -⟩ | ⟨h3, -⟩
      · have hg := hi.2.2.2.2.2.2.2.2.1 j h1
        cases he
        rw [nI_nat (by have := hi.1.2.2.2.2.2.2.2.2.2.2.1; omega)]
        omega
      · rw [h3] at q; cases q
    · cases he
  obtain ⟨r, M1, e1, h1⟩ := h
  have e2 : f_X11_turnGuard a1 M = some (r, M1) := e1
  unfold f_L_turnGuard
  rw [e2]
  rcases h1 with ⟨ans, β, he, rfl, h2⟩ | ⟨k, d, he, rfl, h2⟩
  · refine ⟨nI ans, M1, ?_, Or.inl ⟨ans, β, he, rfl, h2⟩⟩
    rcases ha ans β he with rfl | rfl <;> rfl
  · rcases (hx k d he) with q <;> rw [q]
    · exact ⟨-nI 77, M1, rfl, Or.inr ⟨⟨_, he⟩, ⟨77, by decide, by decide, rfl⟩, h2⟩⟩
theorem z_addGuard (hz : RZ M α αh K nx) (hi : Inv H α) (a1 a3 : Int32) {b : Nat} (hb : b < 2) : Zop α αh K nx (sGuard α a1 (nI b) a3) (f_L_addGuard a1 (nI b) a3 M) := by
  have h := z_call (e := sGuard α a1 (nI b) a3) (subj := nI 3) (tr := f_X9_tryGuard 0 a1 (nI b) a3) (g := id) (kc := fun r M => some (.inr r, M)) hz hi.1.2.1 hi.1.2.2.2.2.2.2.1 (fun M2 h => c_guard h hi a1 a3 hb) (fun k d he => by
    unfold sGuard at he
    (repeat' split at he) <;> cases he <;> omega) (fun _ _ => rfl)
  have hx : ∀ k d, sGuard α a1 (nI b) a3 = .inl (k, d) → exn k = 2 ∨ exn k = 3 := fun k d he => by
    unfold sGuard at he
    (repeat' split at he) <;> cases he <;> decide
  obtain ⟨r, M1, e1, h1⟩ := h
  have e2 : f_X11_addGuard a1 (nI b) a3 M = some (r, M1) := e1
  unfold f_L_addGuard
  rw [e2]
  rcases h1 with ⟨ans, β, he, rfl, h2⟩ | ⟨k, d, he, rfl, h2⟩
  · exact ⟨nI ans, M1, rfl, Or.inl ⟨ans, β, he, rfl, h2⟩⟩
  · rcases (hx k d he) with q | q <;> rw [q]
    · exact ⟨-nI 78, M1, rfl, Or.inr ⟨⟨_, he⟩, ⟨78, by decide, by decide, rfl⟩, h2⟩⟩
    · exact ⟨-nI 76, M1, rfl, Or.inr ⟨⟨_, he⟩, ⟨76, by decide, by decide, rfl⟩, h2⟩⟩
end MODS
