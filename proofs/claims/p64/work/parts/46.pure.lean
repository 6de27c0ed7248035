def RecMA (M : Mem) (tx : Nat → Nat) (L n : Nat) : Prop := ∀ i, i < n → RecM M tx L (Pp tx L i) i
def QFr (M M1 : Mem) : Prop := ∀ a b k, ¬ (a = 12 ∧ (b = 47 ∧ (k = 19 ∨ k = 21 ∨ k = 22) ∨ b = 54)) → M1 a b k = M a b k
/-- behind command k -/
def MP (M0 M : Mem) (tx : Nat → Nat) (L k : Nat) : Prop := TxM M tx L ∧ (M 12 47 19 = nI (cmdS tx L (Pp tx L k) z0).2.1 ∧ M 12 47 21 = nI (k + 1) ∧ M 12 47 22 = nI (!(cmdS tx L (Pp tx L k) z0).1).toNat) ∧ (cmdS tx L (Pp tx L k) z0).2.1 ≤ L ∧ RecMA M tx L k ∧ ((cmdS tx L (Pp tx L k) z0).1 = true → RecM M tx L (Pp tx L k) k) ∧ QFr M0 M
theorem RecM_fr {M M1 : Mem} {tx : Nat → Nat} {L p c : Nat} (h : RecM M tx L p c) (hf : ∀ k, 6 * c ≤ k → k < 6 * c + 6 → M1 12 54 k = M 12 54 k) (hc : (cmdS tx L p z0).2.2.1 ≤ 4) : RecM M1 tx L p c := by
  obtain ⟨w, h1, h2, h3, h4⟩ := h
  exact ⟨w, h1, h2, by rw [hf _ (by omega) (by omega)]; exact h3, fun j hj => by rw [hf _ (by omega) (by omega)]; exact h4 j hj⟩
theorem frm_cnt {tx : Nat → Nat} {L : Nat} : ∀ (cs : List Int32) (r : Rdr), (frmS tx L cs r).2.2.1 ≤ r.2.2.1 + nnum cs
  | [], r => Nat.le_refl _
  | c :: cs, r => by
    rw [frm_c, nnum_c]
    have h1 := opF_cnt (tx := tx) (L := L) (c := c) (r := r)
    have h2 := frm_cnt (tx := tx) (L := L) cs (opF tx L c r)
    have h3 := frm_cnt (tx := tx) (L := L) cs r
    split
    · rename_i q
      rw [if_neg (show ¬ c = 32 by rw [q]; decide)]
      split
      · omega
      · show r.2.2.1 + 1 ≤ _
        omega
    · split <;> omega
theorem cmd_cnt {tx : Nat → Nat} {L p : Nat} : (cmdS tx L p z0).2.2.1 ≤ 4 := by
  cases hw : wsel tx L p with
  | none => rw [cmd_none hw]; exact Nat.zero_le _
  | some w =>
    have a7 := (ltr_all ⟨w, (rwS_sel.1 w hw).1⟩).2.2.2.2.2.2.1
    simp only [] at a7
    have h1 := frm_cnt (tx := tx) (L := L) (frm w) (lit tx L (ltr w) (r0 p z0))
    have h2 : (lit tx L (ltr w) (r0 p z0)).2.2.1 = 0 := by rw [lit_cnt]; rfl
    rw [cmd_some hw]
    split
    · omega
    · omega
theorem m_parseL {M0 : Mem} {tx : Nat → Nat} {L : Nat} (kk : Mem → Option (Int32 × Mem)) : ∀ f N k M, f + 1 + k = 13 → f < N → 5 * k ≤ Pp tx L k → Pp tx L k ≤ L → MP M0 M tx L k → ∃ M1, f_X12_runCommands_L36 N M kk = kk M1 ∧ QFr M0 M1 ∧ TxM M1 tx L ∧ ((prS tx L (f + 1) k).1 = true → M1 12 47 22 = nI 0 ∧ (∃ p, L ≤ p ∧ p ≤ 60 ∧ M1 12 47 19 = nI p) ∧ M1 12 47 21 = nI (prS tx L (f + 1) k).2.2 ∧ RecMA M1 tx L (prS tx L (f + 1) k).2.2) ∧ ((prS tx L (f + 1) k).1 = false → M1 12 47 19 = nI (prS tx L (f + 1) k).2.1 ∧ (M1 12 47 22 = nI 1 ∨ M1 12 47 22 = nI 0 ∧ (prS tx L (f + 1) k).2.1 < L)) := by
  intro f
  induction f with
  | zero =>
    intro N k M h1 h2 h3 h4 h
    have hk : k = 12 := by omega
    obtain ⟨n, rfl⟩ : ∃ n, N = n + 1 := ⟨N - 1, by omega⟩
    obtain ⟨ht, ⟨e19, e21, e22⟩, hl, hrec, hrk, hfr⟩ := h
    have l60 := ht.1
    have hge := cmd_ge (tx := tx) (L := L) (p := Pp tx L k)
    have q : (cmdS tx L (Pp tx L k) z0).1 = false := by
      cases e : (cmdS tx L (Pp tx L k) z0).1 with
      | false => rfl
      | true => have := hge e; omega
    rw [q] at e22
    rw [f_X12_runCommands_L36.eq_2, e22, if_neg (by decide), prS_s, q, if_neg (by decide)]
    exact ⟨M, rfl, hfr, ht, fun e => (by cases e), fun _ => ⟨e19, Or.inl e22⟩⟩
  | succ f ih =>
    intro N k M h1 h2 h3 h4 h
    obtain ⟨n, rfl⟩ : ∃ n, N = n + 1 := ⟨N - 1, by omega⟩
    obtain ⟨ht, ⟨e19, e21, e22⟩, hl, hrec, hrk, hfr⟩ := h
    have l60 := ht.1
    have hge := cmd_ge (tx := tx) (L := L) (p := Pp tx L k)
    rw [f_X12_runCommands_L36.eq_2, prS_s]
    cases q : (cmdS tx L (Pp tx L k) z0).1 with
    | false =>
      rw [q] at e22
      rw [e22, if_neg (show ¬ nI (!false).toNat = 0 by decide), if_neg (by decide)]
      exact ⟨M, rfl, hfr, ht, fun e => (by cases e), fun _ => ⟨e19, Or.inl e22⟩⟩
    | true =>
      rw [q] at e22
      have e22' : M 12 47 22 = nI 0 := e22
      have g3 := hge q
      have hM : Mst M M tx L (k + 1) (true, (cmdS tx L (Pp tx L k) z0).2.1, 0, z0) := ⟨ht, ⟨e19, e21, e22⟩, ⟨hl, by omega⟩, fun _ j hj => absurd hj (Nat.not_lt_zero _), fun _ _ _ _ => rfl⟩
      have eh : f_X12_here (0 : Int32) M = some (pk tx L (cmdS tx L (Pp tx L k) z0).2.1) := m_here (j := 0) (r := (true, (cmdS tx L (Pp tx L k) z0).2.1, 0, z0)) hM (by decide)
      have e59 := pk_at (tx := tx) (L := L) (p := (cmdS tx L (Pp tx L k) z0).2.1) (c := 59) (fun i hi => (ht.2.2 i hi).2) (by decide)
      rw [e22', if_pos (show nI 0 = 0 from rfl), eh, mbp_eq, if_pos rfl]
      by_cases q2 : L ≤ (cmdS tx L (Pp tx L k) z0).2.1
      · have e2 : pk tx L (cmdS tx L (Pp tx L k) z0).2.1 = -nI 1 := if_neg (by omega)
        rw [if_pos q2, e2, if_neg (show ¬ -nI 1 = 59 by decide)]
        refine ⟨M, rfl, hfr, ht, fun _ => ⟨e22', ⟨_, q2, by omega, e19⟩, e21, fun i hi => ?_⟩, fun e => (by cases e)⟩
        have hi' : i < k + 1 := hi
        by_cases r : i = k
        · rw [r]; exact hrk q
        · exact hrec i (by omega)
      · rw [if_neg q2]
        by_cases q3 : isAt tx L (cmdS tx L (Pp tx L k) z0).2.1 59 = true
        · have e3 : pk tx L (cmdS tx L (Pp tx L k) z0).2.1 = nI 59 := by rw [e59]; exact q3
          rw [if_pos q3, if_pos (show pk tx L (cmdS tx L (Pp tx L k) z0).2.1 = 59 from e3), mlet_eq, e19, lit_1, nI_add]
          have hS : Mst (mup M 12 47 19 (nI ((cmdS tx L (Pp tx L k) z0).2.1 + 1))) (mup M 12 47 19 (nI ((cmdS tx L (Pp tx L k) z0).2.1 + 1))) tx L (k + 1) (r0 (Pp tx L (k + 1)) z0) := by
            refine ⟨⟨l60, ?_, fun i hi => ?_⟩, ⟨?_, ?_, ?_⟩, ⟨?_, by omega⟩, fun _ j hj => absurd hj (Nat.not_lt_zero _), fun _ _ _ _ => rfl⟩
            · rw [mup_at, if_neg (by decide)]; exact ht.2.1
            · rw [mup_at, if_neg (by omega)]; exact ht.2.2 i hi
            · rw [mup_at, if_pos (by decide)]; rfl
            · rw [mup_at, if_neg (by decide)]; exact e21
            · rw [mup_at, if_neg (by decide)]; exact e22'
            · show (cmdS tx L (Pp tx L k) z0).2.1 + 1 ≤ L
              omega
          obtain ⟨⟨⟩, M1, k1, ⟨r1, ⟨r2, r3, r4⟩, r5, r6, r7⟩⟩ := m_readsOne hS
          rw [k1, mbnd_eq]
          refine ih n (k + 1) M1 (by omega) (by omega) (by rw [Pp_s]; omega) (by rw [Pp_s]; omega) ⟨r1, ⟨r2, r3, r4⟩, r5, fun i hi => ?_, r6, fun a b j hab => ?_⟩
          · have f54 : ∀ j, 6 * i ≤ j → j < 6 * i + 6 → M1 12 54 j = M 12 54 j := fun j h1 h2 => by rw [r7 12 54 j (by omega), mup_at, if_neg (by omega)]
            by_cases r : i = k
            · rw [r] at f54 ⊢
              exact RecM_fr (hrk q) f54 cmd_cnt
            · exact RecM_fr (hrec i (by omega)) f54 cmd_cnt
          · rw [r7 a b j (by omega), mup_at, if_neg (by omega)]
            exact hfr a b j hab
        · have e3 : ¬ pk tx L (cmdS tx L (Pp tx L k) z0).2.1 = nI 59 := by rw [e59]; exact q3
          rw [if_neg q3, if_neg (show ¬ pk tx L (cmdS tx L (Pp tx L k) z0).2.1 = 59 from e3)]
          exact ⟨M, rfl, hfr, ht, fun e => (by cases e), fun _ => ⟨e19, Or.inr ⟨e22', by show (cmdS tx L (Pp tx L k) z0).2.1 < L; omega⟩⟩⟩
/-! COMMANDS CARRIED OUT -/
def sCmd (α : Sp) (w : Nat) (ns : Nat → Nat) : Ex := if w = 0 then sAdd α else if w = 1 then sSeal α (nI (ns 0)) (nI (ns 1)) (nI (ns 2)) (nI (ns 3)) else if w = 2 then sShare α (nI (ns 0)) (nI (ns 1)) else if w = 3 then sGive α (nI (ns 0)) else if w = 4 then sBack α (nI (ns 0)) else if w = 5 then sOpen α else if w = 6 then sClose α else if w = 7 then sGuard α (nI (ns 0)) (nI (if nI (ns 1) = nI 1 then 1 else 0)) (nI (ns 2)) else if w = 8 then sTurn α (nI (ns 0)) else if w = 9 then sHum α (nI (ns 0)) (nI (ns 1)) else sHours α (nI (ns 0))
/-- what it comes to: a cause, or a state -/
def exR (w : Nat) (e : Ex) : Nat ⊕ Sp := match e with
  | .inl (k, _) => .inl (if k < 20 then k else 12)
  | .inr (ans, β) => if w = 5 ∧ ans = 0 then .inl 12 else .inr β
def kOK (e : Ex) : Prop := ∀ k d, e = .inl (k, d) → 1 ≤ k ∧ k ≤ 10 ∨ k = 20 ∨ k = 21
theorem kOK_i {k d : Nat} (h : 1 ≤ k ∧ k ≤ 10 ∨ k = 20 ∨ k = 21) : kOK (.inl (k, d)) := fun k' d' e => by cases e; exact h
theorem kOK_r {x : Nat × Sp} : kOK (.inr x) := fun _ _ e => by cases e
theorem kOK_ite {p : Prop} [Decidable p] {x y : Ex} (h1 : kOK x) (h2 : kOK y) : kOK (if p then x else y) := by
  split
  · exact h1
  · exact h2
theorem kOK_cmd (α : Sp) (w : Nat) (ns : Nat → Nat) : kOK (sCmd α w ns) := by
  unfold sCmd sAdd sSeal sShare sGive sBack sOpen sClose sGuard sTurn sHum sHours
  repeat' (first | exact kOK_i (by decide) | exact kOK_r | refine kOK_ite ?_ ?_ | split)
theorem inv_cmd {α : Sp} {H w ans : Nat} {ns : Nat → Nat} {β : Sp} (hi : Inv H α) (hH : H < 900000) (he : sCmd α w ns = .inr (ans, β)) : Inv (H + 24) β := by
  unfold sCmd at he
  by_cases q0 : w = 0
  · rw [if_pos q0] at he; exact (inv_add hi he).mono (by omega)
  rw [if_neg q0] at he
  by_cases q1 : w = 1
  · rw [if_pos q1] at he; exact (inv_seal hi he).mono (by omega)
  rw [if_neg q1] at he
  by_cases q2 : w = 2
  · rw [if_pos q2] at he; exact (inv_share hi he).mono (by omega)
  rw [if_neg q2] at he
  by_cases q3 : w = 3
  · rw [if_pos q3] at he; exact (inv_give hi he).mono (by omega)
  rw [if_neg q3] at he
  by_cases q4 : w = 4
  · rw [if_pos q4] at he; exact (inv_back hi he).mono (by omega)
  rw [if_neg q4] at he
  by_cases q5 : w = 5
  · rw [if_pos q5] at he; exact (inv_open hi he).mono (by omega)
  rw [if_neg q5] at he
  by_cases q6 : w = 6
  · rw [if_pos q6] at he; exact (inv_close hi he).mono (by omega)
  rw [if_neg q6] at he
  by_cases q7 : w = 7
  · rw [if_pos q7] at he; exact (inv_guard (by split <;> decide) hi he).mono (by omega)
  rw [if_neg q7] at he
  by_cases q8 : w = 8
  · rw [if_pos q8] at he; exact (inv_turn hi he).mono (by omega)
  rw [if_neg q8] at he
  by_cases q9 : w = 9
  · rw [if_pos q9] at he; exact (inv_hum hi he).mono (by omega)
  rw [if_neg q9] at he
  exact inv_hours hi hH he
/-- the class, at one command -/
def CmdC (M : Mem) (o : Nat ⊕ Sp) (x : Option (Int32 × Mem)) : Prop := match o with
  | .inr β => wp x fun r M1 => r = nI 0 ∧ RC (M1 0) β ∧ ∀ a, a ≠ 0 → M1 a = M a
  | .inl cz => wp x fun r M1 => ¬ r = nI 0 ∧ (if r ≤ nI 0 then nI 12 else r) = nI cz ∧ ∀ a, a ≠ 0 → M1 a = M a
def CmdM (M : Mem) (o : Nat ⊕ Sp) (x : Option (Int32 × Mem)) : Prop := match o with
  | .inr β => wp x fun r M1 => r = nI 0 ∧ M1 12 48 = enc β ∧ (∀ k, k ≠ 15 → M1 12 47 k = M 12 47 k) ∧ ∀ a b, ¬ (a = 12 ∧ (b = 47 ∨ b = 48 ∨ b = 56)) → M1 a b = M a b
  | .inl cz => wp x fun r M1 => ¬ r = nI 0 ∧ (if nI 0 ≤ r then nI 12 else -r) = nI cz ∧ (∃ β, M1 12 48 = enc β) ∧ (∀ k, k ≠ 15 → k ≠ 16 → k ≠ 17 → k ≠ 18 → M1 12 47 k = M 12 47 k) ∧ ∀ a b, ¬ (a = 12 ∧ (b = 47 ∨ b = 48 ∨ b = 56)) → M1 a b = M a b
theorem CmdC_of {M : Mem} {subj : Int32} {e : Ex} {x : Option (Int32 × Mem)} {w : Nat} (hw : w ≠ 5) (hk : kOK e) (h : CT M subj e x) : CmdC M (exR w e) x := by
  rcases e with ⟨k, d⟩ | ⟨ans, β⟩
  · obtain ⟨h1, -⟩ := h
    show wp x _
    rw [h1, wp_some]
    rcases hk k d rfl with hk1 | rfl | rfl
    · have ev : vc k = nI k := by unfold vc; rw [if_neg (by omega), if_neg (by omega)]
      rw [ev]
      refine ⟨by rw [nI_eqE (by omega) (by decide)]; omega, ?_, fun _ _ => rfl⟩
      rw [if_neg (by rw [nI_leE (by omega) (by decide)]; omega), if_pos (by omega)]
    · exact ⟨by decide, by decide, fun _ _ => rfl⟩
    · exact ⟨by decide, by decide, fun _ _ => rfl⟩
  · have e1 : exR w (.inr (ans, β)) = .inr β := if_neg (fun q => hw q.1)
    rw [e1]
    refine wp_mono h ?_
    rintro r M1 ⟨h1, h2, h3, h4⟩
    exact ⟨h1, h2, h4⟩
theorem CmdM_of {M : Mem} {e : Ex} {x : Option (Int32 × Mem)} {w c21 : Nat} {α : Sp} (hw : w ≠ 5) (hk : kOK e) (hc : 1 ≤ c21 ∧ c21 ≤ 9) (hS : M 12 48 = enc α) (h : MT M c21 e x) : CmdM M (exR w e) x := by
  rcases e with ⟨k, d⟩ | ⟨ans, β⟩
  · have hkk := hk k d rfl
    unfold MT at h
    by_cases k20 : k < 20
    · have h' : wp x fun r M1 => r = -nI k ∧ M1 12 48 = M 12 48 ∧ (∀ j, j ≠ 16 → j ≠ 17 → j ≠ 18 → M1 12 47 j = M 12 47 j) ∧ M1 12 47 16 = nI k ∧ M1 12 47 17 = nI d ∧ M1 12 47 18 = nI 0 ∧ ∀ a b, ¬ (a = 12 ∧ b = 47) → M1 a b = M a b := by
        simp only [k20, if_true] at h
        exact h
      show wp x _
      refine wp_mono h' ?_
      rintro r M1 ⟨rfl, h2, h3, -, -, -, h7⟩
      refine ⟨by rw [nI_Neq (by decide) (by omega) (by omega)]; exact id, ?_, ⟨α, by rw [h2, hS]⟩, fun j h15 h16 h17 h18 => h3 j h16 h17 h18, fun a b hab => h7 a b (by omega)⟩
      rw [if_neg (by rw [nI_leN (by decide) (by omega) (by omega)]; exact id), if_pos k20, Int32.neg_neg]
    · have h' : x = some (nI (if k = 20 then 1 else c21), M) := by
        simp only [k20, if_false] at h
        exact h
      show wp x _
      rw [h', wp_some]
      have l : 1 ≤ (if k = 20 then 1 else c21) ∧ (if k = 20 then 1 else c21) ≤ 9 := by split <;> omega
      refine ⟨by rw [nI_eqE (by omega) (by decide)]; omega, ?_, ⟨α, hS⟩, fun _ _ _ _ _ => rfl, fun _ _ _ => rfl⟩
      rw [if_pos (by rw [nI_leE (by decide) (by omega)]; omega), if_neg k20]
  · have e1 : exR w (.inr (ans, β)) = .inr β := if_neg (fun q => hw q.1)
    rw [e1]
    refine wp_mono h ?_
    rintro r M1 ⟨h1, h2, h3, h4, h5⟩
    exact ⟨h1, h2, h3, h5⟩
theorem mbnd_id {α : Type} {x : Option (α × Mem)} : (mbnd x fun r m => some (r, m)) = x := by
  cases x with
  | none => rfl
  | some y => rfl
theorem chain_cnt {tx : Nat → Nat} {L : Nat} : ∀ (cs : List Int32) (r : Rdr), (∀ c, c ∈ cs → c = 32 ∨ c = 100 ∨ c = 110 ∨ c = 115) → (chain tx L cs r).1 = true → r.1 = true ∧ (chain tx L cs r).2.2.1 = r.2.2.1 + nnum cs
  | [], r, _, h => ⟨h, rfl⟩
  | c :: cs, r, hc, h => by
    rw [chain_c] at h ⊢
    obtain ⟨h1, h2⟩ := chain_cnt cs _ (fun c' hc' => hc c' (by simp [hc'])) h
    rw [h2, nnum_c]
    rcases hc c (by simp) with rfl | rfl | rfl | rfl
    · rw [op32] at h1 ⊢
      rw [lit_cnt, if_pos rfl]
      exact ⟨lit_ok1 h1, by omega⟩
    · rw [op100] at h1 ⊢
      obtain ⟨g1, g2⟩ := num_ok h1
      rw [g2, if_neg (by decide)]
      exact ⟨g1, by omega⟩
    · rw [op110] at h1 ⊢
      obtain ⟨g1, g2⟩ := num_ok h1
      rw [g2, if_neg (by decide)]
      exact ⟨g1, by omega⟩
    · rw [op115] at h1 ⊢
      obtain ⟨g1, g2⟩ := dir_ok h1
      rw [g2, if_neg (by decide)]
      exact ⟨g1, by omega⟩
theorem frm_all : ∀ w : Fin 11, w.val ≠ 10 → ∀ c, c ∈ frm w.val → c ≠ 63 ∧ (c = 32 ∨ c = 100 ∨ c = 110 ∨ c = 115) := by decide +kernel
/-- how many numbers a well-formed command has -/
theorem cmd_num {tx : Nat → Nat} {L p w : Nat} (hw : wsel tx L p = some w) (h : (cmdS tx L p z0).1 = true) : (w ≠ 10 → (cmdS tx L p z0).2.2.1 = nnum (frm w)) ∧ (w = 10 → (cmdS tx L p z0).2.2.1 = 1) := by
  have w11 := (rwS_sel.1 w hw).1
  refine ⟨fun h10 => ?_, fun h10 => ?_⟩
  · have fa := frm_all ⟨w, w11⟩ h10
    rw [cmd_chain hw (fun c hc => (fa c hc).1)] at h ⊢
    obtain ⟨-, g2⟩ := chain_cnt _ _ (fun c hc => (fa c hc).2) h
    rw [g2, lit_cnt]
    exact Nat.zero_add _
  · subst h10
    rw [cmd_some hw] at h ⊢
    have hz : (lit tx L (ltr 10) (r0 p z0)).2.2.1 = 0 := by rw [lit_cnt]; rfl
    generalize lit tx L (ltr 10) (r0 p z0) = s at *
    by_cases q : s.1 = true
    · rw [if_pos q, show frm 10 = [63, 32, 110] from rfl, frm_c, if_pos rfl] at h ⊢
      by_cases q2 : isAt tx L s.2.1 32 = true
      · rw [if_pos q2, frmS_chain _ _ (by decide)] at h ⊢
        obtain ⟨-, g2⟩ := chain_cnt _ _ (by decide) h
        rw [g2, hz]
        rfl
      · rw [if_neg q2]
        show s.2.2.1 + 1 = 1
        rw [hz]
    · rw [if_neg q] at h
      exact absurd h q
theorem open_ans {α : Sp} {ans : Nat} {β : Sp} (h : sOpen α = .inr (ans, β)) : ans ≤ 1 := by
  unfold sOpen at h
  split at h
  · cases h
  split at h
  · cases h
  split at h
  · cases h
  split at h
  · cases h
  split at h
  · cases h
  split at h
  · cases h; decide
  · cases h; decide
theorem c_cmd {M : Mem} {tx : Nat → Nat} {L p i w H : Nat} {α : Sp} (hi15 : i < 15) (hw : wsel tx L p = some w) (hok : (cmdS tx L p z0).1 = true) (hrec : ∀ j, j < (cmdS tx L p z0).2.2.1 → M 12 (30 + i) j = nI ((cmdS tx L p z0).2.2.2 j)) (hR : RC (M 0) α) (hi : Inv H α) (hH : H < 900000) : CmdC M (exR w (sCmd α w (cmdS tx L p z0).2.2.2)) (f_X9_tryCommand 0 w 12 (30 + i) M) := by
  have w11 := (rwS_sel.1 w hw).1
  obtain ⟨n1, n2⟩ := cmd_num hw hok
  generalize hns : (cmdS tx L p z0).2.2.2 = ns at *
  generalize (cmdS tx L p z0).2.2.1 = cn at *
  have kk := kOK_cmd α w ns
  unfold f_X9_tryCommand
  rcases (show w = 0 ∨ w = 1 ∨ w = 2 ∨ w = 3 ∨ w = 4 ∨ w = 5 ∨ w = 6 ∨ w = 7 ∨ w = 8 ∨ w = 9 ∨ w = 10 by omega) with rfl | rfl | rfl | rfl | rfl | rfl | rfl | rfl | rfl | rfl | rfl
  · show CmdC M _ (mbnd (f_X9_tryHolder 0 M) fun r m => some (r, m))
    rw [mbnd_id]
    exact CmdC_of (by decide) kk (c_add hR hi)
  · have e := n1 (by decide)
    have e0 := hrec 0 (by rw [e]; decide)
    have e1 := hrec 1 (by rw [e]; decide)
    have e2 := hrec 2 (by rw [e]; decide)
    have e3 := hrec 3 (by rw [e]; decide)
    show CmdC M _ (mbnd (f_X9_trySeal 0 (M 12 (30 + i) 0) (M 12 (30 + i) 1) (M 12 (30 + i) 2) (M 12 (30 + i) 3) M) fun r m => some (r, m))
    rw [mbnd_id, e0, e1, e2, e3]
    exact CmdC_of (by decide) kk (c_seal hR hi _ _ _ _)
  · have e := n1 (by decide)
    have e0 := hrec 0 (by rw [e]; decide)
    have e1 := hrec 1 (by rw [e]; decide)
    show CmdC M _ (mbnd (f_X9_tryShare 0 (M 12 (30 + i) 0) (M 12 (30 + i) 1) M) fun r m => some (r, m))
    rw [mbnd_id, e0, e1]
    exact CmdC_of (by decide) kk (c_share hR hi _ _)
  · have e := n1 (by decide)
    have e0 := hrec 0 (by rw [e]; decide)
    show CmdC M _ (mbnd (f_X9_tryPresent 0 (M 12 (30 + i) 0) M) fun r m => some (r, m))
    rw [mbnd_id, e0]
    exact CmdC_of (by decide) kk (c_give hR hi _)
  · have e := n1 (by decide)
    have e0 := hrec 0 (by rw [e]; decide)
    show CmdC M _ (mbnd (f_X9_tryTakeBack 0 (M 12 (30 + i) 0) M) fun r m => some (r, m))
    rw [mbnd_id, e0]
    exact CmdC_of (by decide) kk (c_back hR hi _)
  · show CmdC M _ (mbnd (f_X9_tryOpen 0 M) fun r18 M19 => (mbp (f_X9_verdictOnOutcome 0 r18 M19) fun r20 => (some (r20, M19))))
    have h := c_open hR hi
    have es : sCmd α 5 ns = sOpen α := rfl
    rw [es] at kk ⊢
    have ha := fun ans β => open_ans (α := α) (ans := ans) (β := β)
    generalize sOpen α = e at h kk ha
    unfold f_X9_verdictOnOutcome
    rcases e with ⟨k, d⟩ | ⟨ans, β⟩
    · obtain ⟨h1, h2⟩ := h
      rw [h1, mbnd_eq]
      have hv : ¬ vc k = 0 := by
        rcases kk k d rfl with hk1 | rfl | rfl
        · have ev : vc k = nI k := by unfold vc; rw [if_neg (by omega), if_neg (by omega)]
          rw [ev]
          show ¬ nI k = nI 0
          rw [nI_eqE (by omega) (by decide)]; omega
        · decide
        · decide
      rw [if_neg hv, mbp_eq]
      exact CmdC_of (w := 0) (subj := 0) (by decide) kk ⟨rfl, h2⟩
    · obtain ⟨r, M1, g0, rfl, g1, g2, g3⟩ := h
      rw [g0, mbnd_eq, if_pos (show nI 0 = 0 from rfl), g2]
      by_cases q : ans = 0
      · subst q
        rw [if_pos (show nI 0 = 0 from rfl), mbp_eq]
        exact ⟨_, _, rfl, by decide, by decide, g3⟩
      · have l := ha ans β rfl
        have e1 : exR 5 (.inr (ans, β)) = .inr β := if_neg (fun h => q h.2)
        rw [if_neg (show ¬ nI ans = 0 by show ¬ nI ans = nI 0; rw [nI_eqE (by omega) (by decide)]; exact q), mbp_eq, e1]
        exact ⟨_, _, rfl, rfl, g1, g3⟩
  · show CmdC M _ (mbnd (f_X9_tryClose 0 M) fun r m => some (r, m))
    rw [mbnd_id]
    exact CmdC_of (by decide) kk (c_close hR hi)
  · have e := n1 (by decide)
    have e0 := hrec 0 (by rw [e]; decide)
    have e1 := hrec 1 (by rw [e]; decide)
    have e2 := hrec 2 (by rw [e]; decide)
    show CmdC M _ (if M 12 (30 + i) 1 = 1 then (mbnd (f_X9_tryGuard 0 (M 12 (30 + i) 0) 1 (M 12 (30 + i) 2) M) fun r m => some (r, m)) else (mbnd (f_X9_tryGuard 0 (M 12 (30 + i) 0) 0 (M 12 (30 + i) 2) M) fun r m => some (r, m)))
    rw [mbnd_id, mbnd_id, e0, e1, e2]
    have es : sCmd α 7 ns = sGuard α (nI (ns 0)) (nI (if nI (ns 1) = nI 1 then 1 else 0)) (nI (ns 2)) := rfl
    rw [es] at kk ⊢
    by_cases q : nI (ns 1) = nI 1
    · rw [if_pos q] at kk ⊢
      rw [if_pos (show nI (ns 1) = 1 from q)]
      exact CmdC_of (by decide) kk (c_guard hR hi _ _ (by decide))
    · rw [if_neg q] at kk ⊢
      rw [if_neg (show ¬ nI (ns 1) = 1 from q)]
      exact CmdC_of (by decide) kk (c_guard hR hi _ _ (by decide))
  · have e := n1 (by decide)
    have e0 := hrec 0 (by rw [e]; decide)
    show CmdC M _ (mbnd (f_X9_tryTurn 0 (M 12 (30 + i) 0) M) fun r m => some (r, m))
    rw [mbnd_id, e0]
    exact CmdC_of (by decide) kk (c_turn hR hi _)
  · have e := n1 (by decide)
    have e0 := hrec 0 (by rw [e]; decide)
    have e1 := hrec 1 (by rw [e]; decide)
    show CmdC M _ (mbnd (f_X9_tryHum 0 (M 12 (30 + i) 0) (M 12 (30 + i) 1) M) fun r m => some (r, m))
    rw [mbnd_id, e0, e1]
    exact CmdC_of (by decide) kk (c_hum hR hi _ _)
  · have e := n2 rfl
    have e0 := hrec 0 (by rw [e]; decide)
    show CmdC M _ (mbnd (f_X9_tryHours 0 (M 12 (30 + i) 0) M) fun r m => some (r, m))
    rw [mbnd_id, e0]
    exact CmdC_of (by decide) kk (c_hours hR hi hH _)
theorem m_cmd {M : Mem} {tx : Nat → Nat} {L p i w H : Nat} {α : Sp} (hi15 : i < 15) (hw : wsel tx L p = some w) (hok : (cmdS tx L p z0).1 = true) (hcode : M 12 54 (6 * i) = nI (codeW w)) (hrec : ∀ j, j < (cmdS tx L p z0).2.2.1 → M 12 54 (6 * i + 1 + j) = nI ((cmdS tx L p z0).2.2.2 j)) (hS : M 12 48 = enc α) (hi : Inv H α) (hH : H < 900000) : CmdM M (exR w (sCmd α w (cmdS tx L p z0).2.2.2)) (f_X12_does (nI i) M) := by
  have w11 := (rwS_sel.1 w hw).1
  obtain ⟨n1, n2⟩ := cmd_num hw hok
  generalize hns : (cmdS tx L p z0).2.2.2 = ns at *
  generalize (cmdS tx L p z0).2.2.1 = cn at *
  have kk := kOK_cmd α w ns
  have l98 : (98 : Int32) = nI 98 := rfl
  have l116 : (116 : Int32) = nI 116 := rfl
  have l203 : (203 : Int32) = nI 203 := rfl
  have l204 : (204 : Int32) = nI 204 := rfl
  have l215 : (215 : Int32) = nI 215 := rfl
  unfold f_X12_does
  rcases (show w = 0 ∨ w = 1 ∨ w = 2 ∨ w = 3 ∨ w = 4 ∨ w = 5 ∨ w = 6 ∨ w = 7 ∨ w = 8 ∨ w = 9 ∨ w = 10 by omega) with rfl | rfl | rfl | rfl | rfl | rfl | rfl | rfl | rfl | rfl | rfl
  · have hc : M 12 54 (6 * i) = nI 104 := hcode
    simp (disch := omega) only [lit_0, lit_1, lit_2, lit_3, lit_4, lit_5, lit_6, lit_7, lit_8, lit_9, lit_10, lit_11, lit_12, lit_13, lit_14, lit_15, lit_16, lit_20, lit_23, lit_24, lit_31, lit_32, lit_39, lit_43, lit_45, lit_47, lit_48, lit_56, lit_57, lit_59, lit_60, lit_62, lit_63, lit_89, lit_92, lit_96, lit_97, lit_99, lit_100, lit_102, lit_103, lit_104, lit_110, lit_111, lit_115, lit_117, lit_194, lit_200, lit_644, lit_736, lit_999, lit_1000, lit_9999, lit_10000, lit_1000000000, ↓wp_mlet, ↓wp_mbp, ↓wp_ite, ↓wp_mix, ↓wp_mdiv, ↓wp_mnz, ↓wp_some, ↓wp_mbnd, ↓mlet_eq, ↓mbp_eq, ↓mbnd_eq, ↓mix_ite, ↓mdiv_ite, ↓mnz_ite, nI_add, nI_mul, nI_nat, nI_ltE, nI_leE, nI_eqE, nI_eqN, nI_Neq, nI_Nlt, nI_Nle, nI_ltN, nI_leN, ↓reduceIte, ↓Nat.reduceEqDiff, and_f, nt_e, nt_t, nl_t, nl_f, ne_t, ne_f, and_self, or_self, or_true, true_or, or_false, false_or, if_true, if_false, and_true, true_and, and_false, false_and, not_true, not_false_iff, hc, l98, l116, l203, l204, l215]
    rw [mbnd_id]
    exact CmdM_of (by decide) kk (by decide) hS (m_add hS hi)
  · have hc : M 12 54 (6 * i) = nI 115 := hcode
    have e := n1 (by decide)
    have e0 : M 12 54 (6 * i + 1) = nI (ns 0) := hrec 0 (by rw [e]; decide)
    have e1 : M 12 54 (6 * i + 2) = nI (ns 1) := hrec 1 (by rw [e]; decide)
    have e2 : M 12 54 (6 * i + 3) = nI (ns 2) := hrec 2 (by rw [e]; decide)
    have e3 : M 12 54 (6 * i + 4) = nI (ns 3) := hrec 3 (by rw [e]; decide)
    simp (disch := omega) only [lit_0, lit_1, lit_2, lit_3, lit_4, lit_5, lit_6, lit_7, lit_8, lit_9, lit_10, lit_11, lit_12, lit_13, lit_14, lit_15, lit_16, lit_20, lit_23, lit_24, lit_31, lit_32, lit_39, lit_43, lit_45, lit_47, lit_48, lit_56, lit_57, lit_59, lit_60, lit_62, lit_63, lit_89, lit_92, lit_96, lit_97, lit_99, lit_100, lit_102, lit_103, lit_104, lit_110, lit_111, lit_115, lit_117, lit_194, lit_200, lit_644, lit_736, lit_999, lit_1000, lit_9999, lit_10000, lit_1000000000, ↓wp_mlet, ↓wp_mbp, ↓wp_ite, ↓wp_mix, ↓wp_mdiv, ↓wp_mnz, ↓wp_some, ↓wp_mbnd, ↓mlet_eq, ↓mbp_eq, ↓mbnd_eq, ↓mix_ite, ↓mdiv_ite, ↓mnz_ite, nI_add, nI_mul, nI_nat, nI_ltE, nI_leE, nI_eqE, nI_eqN, nI_Neq, nI_Nlt, nI_Nle, nI_ltN, nI_leN, ↓reduceIte, ↓Nat.reduceEqDiff, and_f, nt_e, nt_t, nl_t, nl_f, ne_t, ne_f, and_self, or_self, or_true, true_or, or_false, false_or, if_true, if_false, and_true, true_and, and_false, false_and, not_true, not_false_iff, hc, l98, l116, l203, l204, l215, e0, e1, e2, e3]
    rw [mbnd_id]
    exact CmdM_of (by decide) kk (by decide) hS (m_seal hS hi _ _ _ _)
  · have hc : M 12 54 (6 * i) = nI 215 := hcode
    have e := n1 (by decide)
    have e0 : M 12 54 (6 * i + 1) = nI (ns 0) := hrec 0 (by rw [e]; decide)
    have e1 : M 12 54 (6 * i + 2) = nI (ns 1) := hrec 1 (by rw [e]; decide)
    simp (disch := omega) only [lit_0, lit_1, lit_2, lit_3, lit_4, lit_5, lit_6, lit_7, lit_8, lit_9, lit_10, lit_11, lit_12, lit_13, lit_14, lit_15, lit_16, lit_20, lit_23, lit_24, lit_31, lit_32, lit_39, lit_43, lit_45, lit_47, lit_48, lit_56, lit_57, lit_59, lit_60, lit_62, lit_63, lit_89, lit_92, lit_96, lit_97, lit_99, lit_100, lit_102, lit_103, lit_104, lit_110, lit_111, lit_115, lit_117, lit_194, lit_200, lit_644, lit_736, lit_999, lit_1000, lit_9999, lit_10000, lit_1000000000, ↓wp_mlet, ↓wp_mbp, ↓wp_ite, ↓wp_mix, ↓wp_mdiv, ↓wp_mnz, ↓wp_some, ↓wp_mbnd, ↓mlet_eq, ↓mbp_eq, ↓mbnd_eq, ↓mix_ite, ↓mdiv_ite, ↓mnz_ite, nI_add, nI_mul, nI_nat, nI_ltE, nI_leE, nI_eqE, nI_eqN, nI_Neq, nI_Nlt, nI_Nle, nI_ltN, nI_leN, ↓reduceIte, ↓Nat.reduceEqDiff, and_f, nt_e, nt_t, nl_t, nl_f, ne_t, ne_f, and_self, or_self, or_true, true_or, or_false, false_or, if_true, if_false, and_true, true_and, and_false, false_and, not_true, not_false_iff, hc, l98, l116, l203, l204, l215, e0, e1]
    rw [mbnd_id]
    exact CmdM_of (by decide) kk (by decide) hS (m_shares hS hi _ _)
  · have hc : M 12 54 (6 * i) = nI 103 := hcode
    have e := n1 (by decide)
    have e0 : M 12 54 (6 * i + 1) = nI (ns 0) := hrec 0 (by rw [e]; decide)
    simp (disch := omega) only [lit_0, lit_1, lit_2, lit_3, lit_4, lit_5, lit_6, lit_7, lit_8, lit_9, lit_10, lit_11, lit_12, lit_13, lit_14, lit_15, lit_16, lit_20, lit_23, lit_24, lit_31, lit_32, lit_39, lit_43, lit_45, lit_47, lit_48, lit_56, lit_57, lit_59, lit_60, lit_62, lit_63, lit_89, lit_92, lit_96, lit_97, lit_99, lit_100, lit_102, lit_103, lit_104, lit_110, lit_111, lit_115, lit_117, lit_194, lit_200, lit_644, lit_736, lit_999, lit_1000, lit_9999, lit_10000, lit_1000000000, ↓wp_mlet, ↓wp_mbp, ↓wp_ite, ↓wp_mix, ↓wp_mdiv, ↓wp_mnz, ↓wp_some, ↓wp_mbnd, ↓mlet_eq, ↓mbp_eq, ↓mbnd_eq, ↓mix_ite, ↓mdiv_ite, ↓mnz_ite, nI_add, nI_mul, nI_nat, nI_ltE, nI_leE, nI_eqE, nI_eqN, nI_Neq, nI_Nlt, nI_Nle, nI_ltN, nI_leN, ↓reduceIte, ↓Nat.reduceEqDiff, and_f, nt_e, nt_t, nl_t, nl_f, ne_t, ne_f, and_self, or_self, or_true, true_or, or_false, false_or, if_true, if_false, and_true, true_and, and_false, false_and, not_true, not_false_iff, hc, l98, l116, l203, l204, l215, e0]
    rw [mbnd_id]
    exact CmdM_of (by decide) kk (by decide) hS (m_presents hS hi _)
  · have hc : M 12 54 (6 * i) = nI 98 := hcode
    have e := n1 (by decide)
    have e0 : M 12 54 (6 * i + 1) = nI (ns 0) := hrec 0 (by rw [e]; decide)
    simp (disch := omega) only [lit_0, lit_1, lit_2, lit_3, lit_4, lit_5, lit_6, lit_7, lit_8, lit_9, lit_10, lit_11, lit_12, lit_13, lit_14, lit_15, lit_16, lit_20, lit_23, lit_24, lit_31, lit_32, lit_39, lit_43, lit_45, lit_47, lit_48, lit_56, lit_57, lit_59, lit_60, lit_62, lit_63, lit_89, lit_92, lit_96, lit_97, lit_99, lit_100, lit_102, lit_103, lit_104, lit_110, lit_111, lit_115, lit_117, lit_194, lit_200, lit_644, lit_736, lit_999, lit_1000, lit_9999, lit_10000, lit_1000000000, ↓wp_mlet, ↓wp_mbp, ↓wp_ite, ↓wp_mix, ↓wp_mdiv, ↓wp_mnz, ↓wp_some, ↓wp_mbnd, ↓mlet_eq, ↓mbp_eq, ↓mbnd_eq, ↓mix_ite, ↓mdiv_ite, ↓mnz_ite, nI_add, nI_mul, nI_nat, nI_ltE, nI_leE, nI_eqE, nI_eqN, nI_Neq, nI_Nlt, nI_Nle, nI_ltN, nI_leN, ↓reduceIte, ↓Nat.reduceEqDiff, and_f, nt_e, nt_t, nl_t, nl_f, ne_t, ne_f, and_self, or_self, or_true, true_or, or_false, false_or, if_true, if_false, and_true, true_and, and_false, false_and, not_true, not_false_iff, hc, l98, l116, l203, l204, l215, e0]
    rw [mbnd_id]
    exact CmdM_of (by decide) kk (by decide) hS (m_takes hS hi _)
  · have hc : M 12 54 (6 * i) = nI 111 := hcode
    simp (disch := omega) only [lit_0, lit_1, lit_2, lit_3, lit_4, lit_5, lit_6, lit_7, lit_8, lit_9, lit_10, lit_11, lit_12, lit_13, lit_14, lit_15, lit_16, lit_20, lit_23, lit_24, lit_31, lit_32, lit_39, lit_43, lit_45, lit_47, lit_48, lit_56, lit_57, lit_59, lit_60, lit_62, lit_63, lit_89, lit_92, lit_96, lit_97, lit_99, lit_100, lit_102, lit_103, lit_104, lit_110, lit_111, lit_115, lit_117, lit_194, lit_200, lit_644, lit_736, lit_999, lit_1000, lit_9999, lit_10000, lit_1000000000, ↓wp_mlet, ↓wp_mbp, ↓wp_ite, ↓wp_mix, ↓wp_mdiv, ↓wp_mnz, ↓wp_some, ↓wp_mbnd, ↓mlet_eq, ↓mbp_eq, ↓mbnd_eq, ↓mix_ite, ↓mdiv_ite, ↓mnz_ite, nI_add, nI_mul, nI_nat, nI_ltE, nI_leE, nI_eqE, nI_eqN, nI_Neq, nI_Nlt, nI_Nle, nI_ltN, nI_leN, ↓reduceIte, ↓Nat.reduceEqDiff, and_f, nt_e, nt_t, nl_t, nl_f, ne_t, ne_f, and_self, or_self, or_true, true_or, or_false, false_or, if_true, if_false, and_true, true_and, and_false, false_and, not_true, not_false_iff, hc, l98, l116, l203, l204, l215]
    rw [mbnd_id]
    have h := m_tries hS hi
    have es : sCmd α 5 ns = sOpen α := rfl
    rw [es] at kk ⊢
    have ha := fun ans β => open_ans (α := α) (ans := ans) (β := β)
    unfold f_X12_opens
    generalize sOpen α = e at h kk ha
    rcases e with ⟨k, d⟩ | ⟨ans, β⟩
    · have h2 := CmdM_of (w := 0) (by decide) kk (by decide) hS h
      show wp _ _
      obtain ⟨r, M1, g0, g1, g2⟩ := h2
      rw [g0, mbnd_eq, if_neg (show ¬ r = 0 from g1), wp_some]
      exact ⟨g1, g2⟩
    · have hz : ¬ ((5 = 5 ∧ ans = 0) ∧ ans ≠ 0) := fun hh => hh.2 hh.1.2
      obtain ⟨r, M1, g0, rfl, g1, g2, g3, g4⟩ := h
      rw [g0, mbnd_eq, if_pos (show nI 0 = 0 from rfl), g3]
      by_cases q : ans = 0
      · subst q
        rw [if_pos (show nI 0 = 0 from rfl)]
        exact ⟨_, _, rfl, by decide, by decide, ⟨β, g1⟩, fun k h15 _ _ _ => g2 k h15, g4⟩
      · have l := ha ans β rfl
        have e1 : exR 5 (.inr (ans, β)) = .inr β := if_neg (fun h => q h.2)
        rw [if_neg (show ¬ nI ans = 0 by show ¬ nI ans = nI 0; rw [nI_eqE (by omega) (by decide)]; exact q), e1]
        exact ⟨_, _, rfl, rfl, g1, g2, g4⟩
  · have hc : M 12 54 (6 * i) = nI 99 := hcode
    simp (disch := omega) only [lit_0, lit_1, lit_2, lit_3, lit_4, lit_5, lit_6, lit_7, lit_8, lit_9, lit_10, lit_11, lit_12, lit_13, lit_14, lit_15, lit_16, lit_20, lit_23, lit_24, lit_31, lit_32, lit_39, lit_43, lit_45, lit_47, lit_48, lit_56, lit_57, lit_59, lit_60, lit_62, lit_63, lit_89, lit_92, lit_96, lit_97, lit_99, lit_100, lit_102, lit_103, lit_104, lit_110, lit_111, lit_115, lit_117, lit_194, lit_200, lit_644, lit_736, lit_999, lit_1000, lit_9999, lit_10000, lit_1000000000, ↓wp_mlet, ↓wp_mbp, ↓wp_ite, ↓wp_mix, ↓wp_mdiv, ↓wp_mnz, ↓wp_some, ↓wp_mbnd, ↓mlet_eq, ↓mbp_eq, ↓mbnd_eq, ↓mix_ite, ↓mdiv_ite, ↓mnz_ite, nI_add, nI_mul, nI_nat, nI_ltE, nI_leE, nI_eqE, nI_eqN, nI_Neq, nI_Nlt, nI_Nle, nI_ltN, nI_leN, ↓reduceIte, ↓Nat.reduceEqDiff, and_f, nt_e, nt_t, nl_t, nl_f, ne_t, ne_f, and_self, or_self, or_true, true_or, or_false, false_or, if_true, if_false, and_true, true_and, and_false, false_and, not_true, not_false_iff, hc, l98, l116, l203, l204, l215]
    rw [mbnd_id]
    exact CmdM_of (by decide) kk (by decide) hS (m_closes hS hi)
  · have hc : M 12 54 (6 * i) = nI 203 := hcode
    have e := n1 (by decide)
    have e0 : M 12 54 (6 * i + 1) = nI (ns 0) := hrec 0 (by rw [e]; decide)
    have e1 : M 12 54 (6 * i + 2) = nI (ns 1) := hrec 1 (by rw [e]; decide)
    have e2 : M 12 54 (6 * i + 3) = nI (ns 2) := hrec 2 (by rw [e]; decide)
    have es : sCmd α 7 ns = sGuard α (nI (ns 0)) (nI (if nI (ns 1) = nI 1 then 1 else 0)) (nI (ns 2)) := rfl
    rw [es] at kk ⊢
    by_cases q : nI (ns 1) = nI 1
    · rw [if_pos q] at kk ⊢
      simp (disch := omega) only [lit_0, lit_1, lit_2, lit_3, lit_4, lit_5, lit_6, lit_7, lit_8, lit_9, lit_10, lit_11, lit_12, lit_13, lit_14, lit_15, lit_16, lit_20, lit_23, lit_24, lit_31, lit_32, lit_39, lit_43, lit_45, lit_47, lit_48, lit_56, lit_57, lit_59, lit_60, lit_62, lit_63, lit_89, lit_92, lit_96, lit_97, lit_99, lit_100, lit_102, lit_103, lit_104, lit_110, lit_111, lit_115, lit_117, lit_194, lit_200, lit_644, lit_736, lit_999, lit_1000, lit_9999, lit_10000, lit_1000000000, ↓wp_mlet, ↓wp_mbp, ↓wp_ite, ↓wp_mix, ↓wp_mdiv, ↓wp_mnz, ↓wp_some, ↓wp_mbnd, ↓mlet_eq, ↓mbp_eq, ↓mbnd_eq, ↓mix_ite, ↓mdiv_ite, ↓mnz_ite, nI_add, nI_mul, nI_nat, nI_ltE, nI_leE, nI_eqE, nI_eqN, nI_Neq, nI_Nlt, nI_Nle, nI_ltN, nI_leN, ↓reduceIte, ↓Nat.reduceEqDiff, and_f, nt_e, nt_t, nl_t, nl_f, ne_t, ne_f, and_self, or_self, or_true, true_or, or_false, false_or, if_true, if_false, and_true, true_and, and_false, false_and, not_true, not_false_iff, hc, l98, l116, l203, l204, l215, e0, e1, e2, q]
      rw [mbnd_id]
      exact CmdM_of (by decide) kk (by decide) hS (m_guards hS hi _ _ (by decide))
    · have q' := eq_false q
      rw [if_neg q] at kk ⊢
      simp (disch := omega) only [lit_0, lit_1, lit_2, lit_3, lit_4, lit_5, lit_6, lit_7, lit_8, lit_9, lit_10, lit_11, lit_12, lit_13, lit_14, lit_15, lit_16, lit_20, lit_23, lit_24, lit_31, lit_32, lit_39, lit_43, lit_45, lit_47, lit_48, lit_56, lit_57, lit_59, lit_60, lit_62, lit_63, lit_89, lit_92, lit_96, lit_97, lit_99, lit_100, lit_102, lit_103, lit_104, lit_110, lit_111, lit_115, lit_117, lit_194, lit_200, lit_644, lit_736, lit_999, lit_1000, lit_9999, lit_10000, lit_1000000000, ↓wp_mlet, ↓wp_mbp, ↓wp_ite, ↓wp_mix, ↓wp_mdiv, ↓wp_mnz, ↓wp_some, ↓wp_mbnd, ↓mlet_eq, ↓mbp_eq, ↓mbnd_eq, ↓mix_ite, ↓mdiv_ite, ↓mnz_ite, nI_add, nI_mul, nI_nat, nI_ltE, nI_leE, nI_eqE, nI_eqN, nI_Neq, nI_Nlt, nI_Nle, nI_ltN, nI_leN, ↓reduceIte, ↓Nat.reduceEqDiff, and_f, nt_e, nt_t, nl_t, nl_f, ne_t, ne_f, and_self, or_self, or_true, true_or, or_false, false_or, if_true, if_false, and_true, true_and, and_false, false_and, not_true, not_false_iff, hc, l98, l116, l203, l204, l215, e0, e1, e2, q']
      rw [mbnd_id]
      exact CmdM_of (by decide) kk (by decide) hS (m_guards hS hi _ _ (by decide))
  · have hc : M 12 54 (6 * i) = nI 116 := hcode
    have e := n1 (by decide)
    have e0 : M 12 54 (6 * i + 1) = nI (ns 0) := hrec 0 (by rw [e]; decide)
    simp (disch := omega) only [lit_0, lit_1, lit_2, lit_3, lit_4, lit_5, lit_6, lit_7, lit_8, lit_9, lit_10, lit_11, lit_12, lit_13, lit_14, lit_15, lit_16, lit_20, lit_23, lit_24, lit_31, lit_32, lit_39, lit_43, lit_45, lit_47, lit_48, lit_56, lit_57, lit_59, lit_60, lit_62, lit_63, lit_89, lit_92, lit_96, lit_97, lit_99, lit_100, lit_102, lit_103, lit_104, lit_110, lit_111, lit_115, lit_117, lit_194, lit_200, lit_644, lit_736, lit_999, lit_1000, lit_9999, lit_10000, lit_1000000000, ↓wp_mlet, ↓wp_mbp, ↓wp_ite, ↓wp_mix, ↓wp_mdiv, ↓wp_mnz, ↓wp_some, ↓wp_mbnd, ↓mlet_eq, ↓mbp_eq, ↓mbnd_eq, ↓mix_ite, ↓mdiv_ite, ↓mnz_ite, nI_add, nI_mul, nI_nat, nI_ltE, nI_leE, nI_eqE, nI_eqN, nI_Neq, nI_Nlt, nI_Nle, nI_ltN, nI_leN, ↓reduceIte, ↓Nat.reduceEqDiff, and_f, nt_e, nt_t, nl_t, nl_f, ne_t, ne_f, and_self, or_self, or_true, true_or, or_false, false_or, if_true, if_false, and_true, true_and, and_false, false_and, not_true, not_false_iff, hc, l98, l116, l203, l204, l215, e0]
    rw [mbnd_id]
    exact CmdM_of (by decide) kk (by decide) hS (m_turns hS hi _)
  · have hc : M 12 54 (6 * i) = nI 204 := hcode
    have e := n1 (by decide)
    have e0 : M 12 54 (6 * i + 1) = nI (ns 0) := hrec 0 (by rw [e]; decide)
    have e1 : M 12 54 (6 * i + 2) = nI (ns 1) := hrec 1 (by rw [e]; decide)
    simp (disch := omega) only [lit_0, lit_1, lit_2, lit_3, lit_4, lit_5, lit_6, lit_7, lit_8, lit_9, lit_10, lit_11, lit_12, lit_13, lit_14, lit_15, lit_16, lit_20, lit_23, lit_24, lit_31, lit_32, lit_39, lit_43, lit_45, lit_47, lit_48, lit_56, lit_57, lit_59, lit_60, lit_62, lit_63, lit_89, lit_92, lit_96, lit_97, lit_99, lit_100, lit_102, lit_103, lit_104, lit_110, lit_111, lit_115, lit_117, lit_194, lit_200, lit_644, lit_736, lit_999, lit_1000, lit_9999, lit_10000, lit_1000000000, ↓wp_mlet, ↓wp_mbp, ↓wp_ite, ↓wp_mix, ↓wp_mdiv, ↓wp_mnz, ↓wp_some, ↓wp_mbnd, ↓mlet_eq, ↓mbp_eq, ↓mbnd_eq, ↓mix_ite, ↓mdiv_ite, ↓mnz_ite, nI_add, nI_mul, nI_nat, nI_ltE, nI_leE, nI_eqE, nI_eqN, nI_Neq, nI_Nlt, nI_Nle, nI_ltN, nI_leN, ↓reduceIte, ↓Nat.reduceEqDiff, and_f, nt_e, nt_t, nl_t, nl_f, ne_t, ne_f, and_self, or_self, or_true, true_or, or_false, false_or, if_true, if_false, and_true, true_and, and_false, false_and, not_true, not_false_iff, hc, l98, l116, l203, l204, l215, e0, e1]
    rw [mbnd_id]
    exact CmdM_of (by decide) kk (by decide) hS (m_hums hS hi _ _)
  · have hc : M 12 54 (6 * i) = nI 119 := hcode
    have e := n2 rfl
    have e0 : M 12 54 (6 * i + 1) = nI (ns 0) := hrec 0 (by rw [e]; decide)
    simp (disch := omega) only [lit_0, lit_1, lit_2, lit_3, lit_4, lit_5, lit_6, lit_7, lit_8, lit_9, lit_10, lit_11, lit_12, lit_13, lit_14, lit_15, lit_16, lit_20, lit_23, lit_24, lit_31, lit_32, lit_39, lit_43, lit_45, lit_47, lit_48, lit_56, lit_57, lit_59, lit_60, lit_62, lit_63, lit_89, lit_92, lit_96, lit_97, lit_99, lit_100, lit_102, lit_103, lit_104, lit_110, lit_111, lit_115, lit_117, lit_194, lit_200, lit_644, lit_736, lit_999, lit_1000, lit_9999, lit_10000, lit_1000000000, ↓wp_mlet, ↓wp_mbp, ↓wp_ite, ↓wp_mix, ↓wp_mdiv, ↓wp_mnz, ↓wp_some, ↓wp_mbnd, ↓mlet_eq, ↓mbp_eq, ↓mbnd_eq, ↓mix_ite, ↓mdiv_ite, ↓mnz_ite, nI_add, nI_mul, nI_nat, nI_ltE, nI_leE, nI_eqE, nI_eqN, nI_Neq, nI_Nlt, nI_Nle, nI_ltN, nI_leN, ↓reduceIte, ↓Nat.reduceEqDiff, and_f, nt_e, nt_t, nl_t, nl_f, ne_t, ne_f, and_self, or_self, or_true, true_or, or_false, false_or, if_true, if_false, and_true, true_and, and_false, false_and, not_true, not_false_iff, hc, l98, l116, l203, l204, l215, e0]
    rw [mbnd_id]
    exact CmdM_of (by decide) kk (by decide) hS (m_passes hS hi hH _)
def wAt (tx : Nat → Nat) (L i : Nat) : Nat := (wsel tx L (Pp tx L i)).getD 0
def nAt (tx : Nat → Nat) (L i : Nat) : Nat → Nat := (cmdS tx L (Pp tx L i) z0).2.2.2
def cR (tx : Nat → Nat) (L i : Nat) (α : Sp) : Nat ⊕ Sp := exR (wAt tx L i) (sCmd α (wAt tx L i) (nAt tx L i))
/-- d commands from i on: which one fails and why, or the state -/
def exS (tx : Nat → Nat) (L : Nat) : Nat → Nat → Sp → (Nat × Nat) ⊕ Sp
  | 0, _, α => .inr α
  | d + 1, i, α => match cR tx L i α with
    | .inl cz => .inl (i, cz)
    | .inr β => exS tx L d (i + 1) β
theorem exS_f {tx : Nat → Nat} {L d i cz : Nat} {α : Sp} (h : cR tx L i α = .inl cz) : exS tx L (d + 1) i α = .inl (i, cz) := by
  show (match cR tx L i α with | Sum.inl cz => (Sum.inl (i, cz) : (Nat × Nat) ⊕ Sp) | Sum.inr β => exS tx L d (i + 1) β) = _
  rw [h]
theorem exS_t {tx : Nat → Nat} {L d i : Nat} {α β : Sp} (h : cR tx L i α = .inr β) : exS tx L (d + 1) i α = exS tx L d (i + 1) β := by
  show (match cR tx L i α with | Sum.inl cz => (Sum.inl (i, cz) : (Nat × Nat) ⊕ Sp) | Sum.inr β => exS tx L d (i + 1) β) = _
  rw [h]
theorem cR_inv {tx : Nat → Nat} {L i H : Nat} {α β : Sp} (hi : Inv H α) (hH : H < 900000) (h : cR tx L i α = .inr β) : Inv (H + 24) β := by
  unfold cR at h
  cases e : sCmd α (wAt tx L i) (nAt tx L i) with
  | inl x => rw [e] at h; cases h
  | inr x =>
    obtain ⟨ans, γ⟩ := x
    rw [e] at h
    by_cases q : wAt tx L i = 5 ∧ ans = 0
    · have : exR (wAt tx L i) (.inr (ans, γ)) = .inl 12 := if_pos q
      rw [this] at h; cases h
    · have : exR (wAt tx L i) (.inr (ans, γ)) = .inr γ := if_neg q
      rw [this] at h
      cases h
      exact inv_cmd hi hH e
theorem cR_cz {tx : Nat → Nat} {L i cz : Nat} {α : Sp} (h : cR tx L i α = .inl cz) : 1 ≤ cz ∧ cz ≤ 12 := by
  unfold cR at h
  have kk := kOK_cmd α (wAt tx L i) (nAt tx L i)
  cases e : sCmd α (wAt tx L i) (nAt tx L i) with
  | inl x =>
    obtain ⟨k, d⟩ := x
    rw [e] at h
    have := kk k d e
    have h2 : (if k < 20 then k else 12) = cz := by
      have h3 : exR (wAt tx L i) (.inl (k, d)) = .inl (if k < 20 then k else 12) := rfl
      rw [h3] at h
      cases h
      rfl
    split at h2 <;> omega
  | inr x =>
    obtain ⟨ans, γ⟩ := x
    rw [e] at h
    by_cases q : wAt tx L i = 5 ∧ ans = 0
    · have : exR (wAt tx L i) (.inr (ans, γ)) = .inl 12 := if_pos q
      rw [this] at h; cases h; decide
    · have : exR (wAt tx L i) (.inr (ans, γ)) = .inr γ := if_neg q
      rw [this] at h; cases h
/-- the class carries them out -/
theorem c_exec {tx : Nat → Nat} {L cnt nx : Nat} {α0 : Sp} (hx : nx < 9) (hc15 : cnt ≤ 12) (b1 : α0 1 ≤ 1) (b6 : α0 6 ≤ 1) (kk : Mem → Option ((Nat ⊕ Int32) × Mem)) : ∀ d N i H α M, i + d = cnt → d < N → H + 24 * d < 900000 → RecA M tx L cnt → M 12 26 3 = nI cnt → M 12 17 1 = nI nx → RC (M (1 + nx)) α0 → RC (M 0) α → Inv H α → (∀ β, exS tx L d i α = .inr β → Inv (H + 24 * d) β ∧ ∃ M1, f_X11_runCommands_L49 N (nI i) M kk = kk M1 ∧ RC (M1 0) β ∧ ∀ a, a ≠ 0 → M1 a = M a) ∧ (∀ j cz, exS tx L d i α = .inl (j, cz) → j < 12 ∧ 1 ≤ cz ∧ cz ≤ 12 ∧ ∃ M1, f_X11_runCommands_L49 N (nI i) M kk = some (.inl 3, M1) ∧ RC (M1 0) α0 ∧ (M1 12 16 8 = nI 11 ∧ M1 12 16 9 = nI j ∧ M1 12 16 10 = nI cz ∧ ∀ k, k ≠ 8 → k ≠ 9 → k ≠ 10 → M1 12 16 k = M 12 16 k) ∧ ∀ a b, a ≠ 0 → ¬ (a = 12 ∧ b = 16) → M1 a b = M a b) := by
  intro d
  induction d with
  | zero =>
    intro N i H α M h1 h2 hH hrec h26 h17 hR0 hR hi
    obtain ⟨n, rfl⟩ : ∃ n, N = n + 1 := ⟨N - 1, by omega⟩
    rw [f_X11_runCommands_L49.eq_2, h26, if_pos (by rw [nI_leE (by omega) (by omega)]; omega)]
    refine ⟨fun β e => ?_, fun j cz e => (by cases e)⟩
    cases e
    exact ⟨hi, M, rfl, hR, fun _ _ => rfl⟩
  | succ d ih =>
    intro N i H α M h1 h2 hH hrec h26 h17 hR0 hR hi
    obtain ⟨n, rfl⟩ : ∃ n, N = n + 1 := ⟨N - 1, by omega⟩
    obtain ⟨ok, w, hw, w11, h28, h30⟩ := hrec i (by omega)
    have ew : wAt tx L i = w := by unfold wAt; rw [hw]; rfl
    have hcmd := c_cmd (i := i) (by omega) hw ok h30 hR hi (by omega)
    have ecR : cR tx L i α = exR w (sCmd α w (cmdS tx L (Pp tx L i) z0).2.2.2) := by unfold cR nAt; rw [ew]
    rw [← ecR] at hcmd
    have e1 : ∀ K : Nat → Option ((Nat ⊕ Int32) × Mem), mwd (nI w) K = K w := fun K => by
      unfold mwd
      rw [if_neg (by rw [nI_nat (by omega)]; show ¬ (nI w = -nI 1 ∨ 11 ≤ w); rw [nI_eqN (by omega) (by decide) (by decide)]; exact fun h => h.elim id (fun h => by omega)), nI_nat (by omega)]
    rw [f_X11_runCommands_L49.eq_2, h26, if_neg (by rw [nI_leE (by omega) (by omega)]; omega), nI_mix (by omega) (by omega), nI_nat (by omega), h28, e1, nI_mix (by omega) (by omega)]
    cases hc : cR tx L i α with
    | inr β =>
      rw [hc] at hcmd
      obtain ⟨r, M1, e2, rfl, g1, g2⟩ := hcmd
      rw [exS_t hc, e2, mbnd_eq, if_pos (show nI 0 = 0 from rfl), mlet_eq, lit_1, nI_add]
      have hrec1 : RecA M1 tx L cnt := fun k hk => by
        obtain ⟨a1, w', a2, a3, a4, a5⟩ := hrec k hk
        exact ⟨a1, w', a2, a3, by rw [g2 12 (by decide)]; exact a4, fun j hj => by rw [g2 12 (by decide)]; exact a5 j hj⟩
      have := ih n (i + 1) (H + 24) β M1 (by omega) (by omega) (by omega) hrec1 (by rw [g2 12 (by decide)]; exact h26) (by rw [g2 12 (by decide)]; exact h17) (by rw [g2 (1 + nx) (by omega)]; exact hR0) g1 (cR_inv hi (by omega) hc)
      refine ⟨fun γ e => ?_, fun j cz e => ?_⟩
      · obtain ⟨i1, M2, k1, k2, k3⟩ := this.1 γ e
        refine ⟨i1.mono (by omega), M2, k1, k2, fun a h => by rw [k3 a h, g2 a h]⟩
      · obtain ⟨j1, c1, c2, M2, k1, k2, ⟨k3, k4, k5, k6⟩, k7⟩ := this.2 j cz e
        exact ⟨j1, c1, c2, M2, k1, k2, ⟨k3, k4, k5, fun k x1 x2 x3 => by rw [k6 k x1 x2 x3, g2 12 (by decide)]⟩, fun a b x1 x2 => by rw [k7 a b x1 x2, g2 a x1]⟩
    | inl cz =>
      rw [hc] at hcmd
      obtain ⟨r, M1, e2, g1, g2, g3⟩ := hcmd
      rw [exS_f hc, e2, mbnd_eq, if_neg (show ¬ r = 0 from g1)]
      refine ⟨fun β e => (by cases e), fun j cz' e => ?_⟩
      cases e
      obtain ⟨z1, z2⟩ := cR_cz hc
      refine ⟨by omega, z1, z2, ?_⟩
      have hprep : f_X4_prepared M1 = some (1 + nx) := by
        unfold f_X4_prepared
        rw [g3 12 (by decide), h17, nI_mix (by omega) (by omega), nI_nat (by omega)]
      obtain ⟨⟨⟩, M2, e3, q1, -, q3⟩ := c_copy (g := 0) (g1 := 1 + nx) (M := M1) (α := α0) (by omega) (by rw [g3 (1 + nx) (by omega)]; exact hR0) b1 b6
      rw [hprep, mbp_eq, e3, mbnd_eq]
      have hkr : ∀ y : Int32, f_X11_keepRefusal 11 (nI i) y M2 = some ((), mup (mup (mup M2 12 16 8 (nI 11)) 12 16 9 (nI i)) 12 16 10 y) := fun _ => rfl
      have e4 : (mlet (fun (x21 : Int32) => (mbnd (f_X11_keepRefusal (11 : Int32) (nI i) x21 M2) fun r23 M24 => (some (((Sum.inl 3) : Nat ⊕ Int32), M24)))) fun k118_22 => (if r ≤ 0 then (k118_22 (12 : Int32)) else (k118_22 r))) = some (.inl 3, mup (mup (mup M2 12 16 8 (nI 11)) 12 16 9 (nI i)) 12 16 10 (nI cz)) := by
        rw [mlet_eq]
        by_cases q : r ≤ nI 0
        · rw [if_pos q] at g2
          rw [if_pos (show r ≤ 0 from q)]
          show mbnd (f_X11_keepRefusal 11 (nI i) 12 M2) (fun r23 M24 => some ((Sum.inl 3 : Nat ⊕ Int32), M24)) = _
          rw [hkr, mbnd_eq, ← g2]
          rfl
        · rw [if_neg q] at g2
          rw [if_neg (show ¬ r ≤ 0 from q)]
          show mbnd (f_X11_keepRefusal 11 (nI i) r M2) (fun r23 M24 => some ((Sum.inl 3 : Nat ⊕ Int32), M24)) = _
          rw [hkr, mbnd_eq, g2]
      refine ⟨_, e4, ?_, ⟨?_, ?_, ?_, fun k x1 x2 x3 => ?_⟩, fun a b x1 x2 => ?_⟩
      · rw [pm_g (by decide), pm_g (by decide), pm_g (by decide)]; exact q1
      · rw [mup_at, if_neg (by decide), mup_at, if_neg (by decide), mup_at, if_pos (by decide)]
      · rw [mup_at, if_neg (by decide), mup_at, if_pos (by decide)]
      · rw [mup_at, if_pos (by decide)]
      · rw [mup_at, if_neg (by omega), mup_at, if_neg (by omega), mup_at, if_neg (by omega), q3 12 (by decide), g3 12 (by decide)]
      · rw [pm_ne x2, pm_ne x2, pm_ne x2, q3 a x1, g3 a x1]
/-- the model carries them out -/
theorem m_backL {M : Mem} {N : Nat} (hN : 1000 = N) (kk : Mem → Option (Int32 × Mem)) : f_X12_runCommands_L127 N (nI 0) M kk = kk (fil M 12 48 0 92 (M 12 49)) := by
  have key := mloop (F := fun n x s kk => f_X12_runCommands_L127 n x s kk) (c := 92) (fun x => fil M 12 48 0 x (M 12 49)) (fun m x kk hx => by
    rw [f_X12_runCommands_L127.eq_2]
    have e : (fil M 12 48 0 x (M 12 49)) 12 49 x = M 12 49 x := by rw [fil_ne (by decide)]
    simp (disch := omega) only [lit_0, lit_1, lit_2, lit_3, lit_4, lit_5, lit_6, lit_7, lit_8, lit_9, lit_10, lit_11, lit_12, lit_13, lit_14, lit_15, lit_16, lit_20, lit_23, lit_24, lit_31, lit_32, lit_39, lit_43, lit_45, lit_47, lit_48, lit_56, lit_57, lit_59, lit_60, lit_62, lit_63, lit_89, lit_92, lit_96, lit_97, lit_99, lit_100, lit_102, lit_103, lit_104, lit_110, lit_111, lit_115, lit_117, lit_194, lit_200, lit_644, lit_736, lit_999, lit_1000, lit_9999, lit_10000, lit_1000000000, ↓wp_mlet, ↓wp_mbp, ↓wp_ite, ↓wp_mix, ↓wp_mdiv, ↓wp_mnz, ↓wp_some, ↓wp_mbnd, ↓mlet_eq, ↓mbp_eq, ↓mbnd_eq, ↓mix_ite, ↓mdiv_ite, ↓mnz_ite, nI_add, nI_mul, nI_nat, nI_ltE, nI_leE, nI_eqE, nI_eqN, nI_Neq, nI_Nlt, nI_Nle, nI_ltN, nI_leN, ↓reduceIte, ↓Nat.reduceEqDiff, and_f, nt_e, nt_t, nl_t, nl_f, ne_t, ne_f, and_self, or_self, or_true, true_or, or_false, false_or, if_true, if_false, and_true, true_and, and_false, false_and, not_true, not_false_iff, e]
    rw [fil_s (by omega) rfl]) (fun m kk => by
    rw [f_X12_runCommands_L127.eq_2]
    simp (disch := omega) only [lit_0, lit_1, lit_2, lit_3, lit_4, lit_5, lit_6, lit_7, lit_8, lit_9, lit_10, lit_11, lit_12, lit_13, lit_14, lit_15, lit_16, lit_20, lit_23, lit_24, lit_31, lit_32, lit_39, lit_43, lit_45, lit_47, lit_48, lit_56, lit_57, lit_59, lit_60, lit_62, lit_63, lit_89, lit_92, lit_96, lit_97, lit_99, lit_100, lit_102, lit_103, lit_104, lit_110, lit_111, lit_115, lit_117, lit_194, lit_200, lit_644, lit_736, lit_999, lit_1000, lit_9999, lit_10000, lit_1000000000, ↓wp_mlet, ↓wp_mbp, ↓wp_ite, ↓wp_mix, ↓wp_mdiv, ↓wp_mnz, ↓wp_some, ↓wp_mbnd, ↓mlet_eq, ↓mbp_eq, ↓mbnd_eq, ↓mix_ite, ↓mdiv_ite, ↓mnz_ite, nI_add, nI_mul, nI_nat, nI_ltE, nI_leE, nI_eqE, nI_eqN, nI_Neq, nI_Nlt, nI_Nle, nI_ltN, nI_leN, ↓reduceIte, ↓Nat.reduceEqDiff, and_f, nt_e, nt_t, nl_t, nl_f, ne_t, ne_f, and_self, or_self, or_true, true_or, or_false, false_or, if_true, if_false, and_true, true_and, and_false, false_and, not_true, not_false_iff])
  have := key 92 N 0 kk (by omega) (by omega)
  rw [fil_0] at this
  exact this
def EFr (M M1 : Mem) : Prop := (∀ k, k ≠ 0 → k ≠ 15 → k ≠ 16 → k ≠ 17 → k ≠ 18 → M1 12 47 k = M 12 47 k) ∧ ∀ a b, ¬ (a = 12 ∧ (b = 47 ∨ b = 48 ∨ b = 56)) → M1 a b = M a b
theorem m_exec {tx : Nat → Nat} {L cnt : Nat} {α0 : Sp} (hc15 : cnt ≤ 12) (kk : Mem → Option (Int32 × Mem)) : ∀ d N i H α M, i + d = cnt → d < N → H + 24 * d < 900000 → (∀ k, k < cnt → (cmdS tx L (Pp tx L k) z0).1 = true) → RecMA M tx L cnt → M 12 47 21 = nI cnt → (∀ j, j < 92 → M 12 49 j = enc α0 j) → M 12 48 = enc α → Inv H α → (∀ β, exS tx L d i α = .inr β → ∃ M1, f_X12_runCommands_L104 N (nI i) M kk = kk M1 ∧ M1 12 48 = enc β ∧ (∀ k, k ≠ 15 → M1 12 47 k = M 12 47 k) ∧ ∀ a b, ¬ (a = 12 ∧ (b = 47 ∨ b = 48 ∨ b = 56)) → M1 a b = M a b) ∧ (∀ j cz, exS tx L d i α = .inl (j, cz) → ∃ r M1, f_X12_runCommands_L104 N (nI i) M kk = some (r, M1) ∧ (∃ β, M1 12 48 = enc (cutSp α0 β)) ∧ (M1 12 47 16 = nI 11 ∧ M1 12 47 17 = nI j ∧ M1 12 47 18 = nI cz ∧ M1 12 47 0 = nI 2) ∧ EFr M M1) := by
  intro d
  induction d with
  | zero =>
    intro N i H α M h1 h2 hH hoks hrec h21 h49 hS hi
    obtain ⟨n, rfl⟩ : ∃ n, N = n + 1 := ⟨N - 1, by omega⟩
    rw [f_X12_runCommands_L104.eq_2, h21, if_pos (by rw [nI_leE (by omega) (by omega)]; omega)]
    refine ⟨fun β e => ?_, fun j cz e => (by cases e)⟩
    cases e
    exact ⟨M, rfl, hS, fun _ _ => rfl, fun _ _ _ => rfl⟩
  | succ d ih =>
    intro N i H α M h1 h2 hH hoks hrec h21 h49 hS hi
    obtain ⟨n, rfl⟩ : ∃ n, N = n + 1 := ⟨N - 1, by omega⟩
    obtain ⟨w, hw, w11, h54, h55⟩ := hrec i (by omega)
    have ok := hoks i (by omega)
    have ew : wAt tx L i = w := by unfold wAt; rw [hw]; rfl
    have hcmd := m_cmd (i := i) (by omega) hw ok h54 h55 hS hi (by omega)
    have ecR : cR tx L i α = exR w (sCmd α w (cmdS tx L (Pp tx L i) z0).2.2.2) := by unfold cR nAt; rw [ew]
    rw [← ecR] at hcmd
    rw [f_X12_runCommands_L104.eq_2, h21, if_neg (by rw [nI_leE (by omega) (by omega)]; omega)]
    cases hc : cR tx L i α with
    | inr β =>
      rw [hc] at hcmd
      obtain ⟨r, M1, e2, rfl, g1, g2, g3⟩ := hcmd
      rw [exS_t hc, e2, mbnd_eq, if_pos (show nI 0 = 0 from rfl), mlet_eq, lit_1, nI_add]
      have hrec1 : RecMA M1 tx L cnt := fun k hk => by
        obtain ⟨w', a2, a3, a4, a5⟩ := hrec k hk
        exact ⟨w', a2, a3, by rw [g3 12 54 (by decide)]; exact a4, fun j hj => by rw [g3 12 54 (by decide)]; exact a5 j hj⟩
      have := ih n (i + 1) (H + 24) β M1 (by omega) (by omega) (by omega) hoks hrec1 (by rw [g2 21 (by decide)]; exact h21) (fun j hj => by rw [g3 12 49 (by decide)]; exact h49 j hj) g1 (cR_inv hi (by omega) hc)
      refine ⟨fun γ e => ?_, fun j cz e => ?_⟩
      · obtain ⟨M2, k1, k2, k3, k4⟩ := this.1 γ e
        exact ⟨M2, k1, k2, fun k hk => by rw [k3 k hk, g2 k hk], fun a b hab => by rw [k4 a b hab, g3 a b hab]⟩
      · obtain ⟨r, M2, k1, k2, k3, k4, k5⟩ := this.2 j cz e
        exact ⟨r, M2, k1, k2, k3, fun k x0 x1 x2 x3 x4 => by rw [k4 k x0 x1 x2 x3 x4, g2 k x1], fun a b hab => by rw [k5 a b hab, g3 a b hab]⟩
    | inl cz =>
      rw [hc] at hcmd
      obtain ⟨r, M1, e2, g1, g2, ⟨β, g3⟩, g4, g5⟩ := hcmd
      rw [exS_f hc, e2, mbnd_eq, if_neg (show ¬ r = 0 from g1)]
      refine ⟨fun β e => (by cases e), fun j cz' e => ?_⟩
      cases e
      have eb := fun kk => m_backL (M := M1) rfl kk
      have eb' : ∀ kk, f_X12_runCommands_L127 1000 0 M1 kk = kk (fil M1 12 48 0 92 (M1 12 49)) := eb
      rw [eb']
      have hf : ∀ j, j < 92 → M1 12 49 j = enc α0 j := fun j hj => by rw [g5 12 49 (by decide)]; exact h49 j hj
      have e48 := enc_cut (lo := 0) g3 hf
      have f48 : ∀ a b, ¬ (a = 12 ∧ b = 48) → (fil M1 12 48 0 92 (M1 12 49)) a b = M1 a b := fun a b h => fil_ne h
      generalize fil M1 12 48 0 92 (M1 12 49) = M2 at *
      have er : f_X12_refused 11 (nI i) M2 = some (-nI 11, mup (mup (mup M2 12 47 16 (nI 11)) 12 47 17 (nI i)) 12 47 18 (nI 0)) := m_refused M2 11 i
      have e4 : (mbnd (f_X12_refused (11 : Int32) (nI i) M2) fun r32 M33 => (mlet (fun (x35 : Int32) => (mlet (mup M33 12 47 18 x35) fun M37 => (mbnd (f_X12_fails (2 : Int32) M37) fun r38 M39 => (some (r38, M39))))) fun k171_36 => (if 0 ≤ r then (k171_36 (12 : Int32)) else (k171_36 (-r))))) = some (nI 0, mup (mup (mup (mup (mup M2 12 47 16 (nI 11)) 12 47 17 (nI i)) 12 47 18 (nI 0)) 12 47 18 (nI cz)) 12 47 0 (nI 2)) := by
        rw [er, mbnd_eq, mlet_eq]
        by_cases q : nI 0 ≤ r
        · rw [if_pos q] at g2
          rw [if_pos (show 0 ≤ r from q), ← g2]
          rfl
        · rw [if_neg q] at g2
          rw [if_neg (show ¬ 0 ≤ r from q), ← g2]
          rfl
      refine ⟨_, _, e4, ⟨β, ?_⟩, ⟨?_, ?_, ?_, ?_⟩, fun k x0 x1 x2 x3 x4 => ?_, fun a b hab => ?_⟩
      · rw [pm_ne (by decide), pm_ne (by decide), pm_ne (by decide), pm_ne (by decide), pm_ne (by decide)]; exact e48
      · rw [mup_at, if_neg (by decide), mup_at, if_neg (by decide), mup_at, if_neg (by decide), mup_at, if_neg (by decide), mup_at, if_pos (by decide)]
      · rw [mup_at, if_neg (by decide), mup_at, if_neg (by decide), mup_at, if_neg (by decide), mup_at, if_pos (by decide)]
      · rw [mup_at, if_neg (by decide), mup_at, if_pos (by decide)]
      · rw [mup_at, if_pos (by decide)]
      · rw [mup_at, if_neg (by omega), mup_at, if_neg (by omega), mup_at, if_neg (by omega), mup_at, if_neg (by omega), mup_at, if_neg (by omega), f48 12 47 (by decide), g4 k x1 x2 x3 x4]
      · rw [pm_ne (by omega), pm_ne (by omega), pm_ne (by omega), pm_ne (by omega), pm_ne (by omega), f48 a b (by omega), g5 a b hab]
/-! runCommands -/
/-- the class -/
theorem c_run {M : Mem} {tx : Nat → Nat} {L nx K H : Nat} {α : Sp} (ht : Txt M tx L) (hx : nx < 9) (hK : K ≤ 8) (h1 : M 12 17 1 = nI nx) (h2 : M 12 17 2 = nI K) (hR : RC (M 0) α) (hi : Inv H α) (hH : H < 800000) :
    ((prS tx L 13 0).1 = false → wp (f_X11_runCommands M) fun o M1 => o = .inl 2 ∧ (prS tx L 13 0).2.1 ≤ L ∧ M1 12 16 11 = nI (prS tx L 13 0).2.1 ∧ M1 12 26 1 = nI 0 ∧ (∀ k, k ≠ 11 → M1 12 16 k = M 12 16 k) ∧ ∀ a b, ¬ (a = 12 ∧ (b = 16 ∨ b = 26 ∨ b = 28 ∨ 30 ≤ b ∧ b < 45)) → M1 a b = M a b) ∧
    ((prS tx L 13 0).1 = true → (1 ≤ (prS tx L 13 0).2.2 ∧ 5 * (prS tx L 13 0).2.2 ≤ L + 1 ∧ ∀ k, k < (prS tx L 13 0).2.2 → (cmdS tx L (Pp tx L k) z0).1 = true) ∧
      (∀ β, exS tx L (prS tx L 13 0).2.2 0 α = .inr β → Inv (H + 24 * (prS tx L 13 0).2.2) β ∧ wp (f_X11_runCommands M) fun o M1 => o = .inr (nI (prS tx L 13 0).2.2) ∧ RC (M1 0) β ∧ RC (M1 (1 + nx)) α ∧ M1 12 17 1 = nI ((nx + 1) % 9) ∧ M1 12 17 2 = nI (minK K) ∧ M1 12 26 1 = nI 0 ∧ ∀ a b, a ≠ 0 → a ≠ 1 + nx → ¬ (a = 12 ∧ (b = 17 ∨ b = 26 ∨ b = 28 ∨ 30 ≤ b ∧ b < 45)) → M1 a b = M a b) ∧
      (∀ j cz, exS tx L (prS tx L 13 0).2.2 0 α = .inl (j, cz) → 1 ≤ cz ∧ cz ≤ 12 ∧ wp (f_X11_runCommands M) fun o M1 => o = .inl 3 ∧ RC (M1 0) α ∧ (M1 12 16 8 = nI 11 ∧ M1 12 16 9 = nI j ∧ M1 12 16 10 = nI cz ∧ ∀ k, k ≠ 8 → k ≠ 9 → k ≠ 10 → M1 12 16 k = M 12 16 k) ∧ M1 12 26 1 = nI 0 ∧ ∀ a b, a ≠ 0 → a ≠ 1 + nx → ¬ (a = 12 ∧ (b = 16 ∨ b = 26 ∨ b = 28 ∨ 30 ≤ b ∧ b < 45)) → M1 a b = M a b)) := by
  have hi' := hi
  obtain ⟨⟨b0, b1, b2, b3, b4, b5, b6, b7, b8, b9, b10, b11, b14⟩, -⟩ := hi'
  have l60 := ht.1
  obtain ⟨v, M1, e1, t1, fr1, hok, hbad⟩ := c_parse ht
  have ecl : f_X2_clear M1 = some ((), mup M1 12 26 1 (nI 0)) := rfl
  unfold f_X11_runCommands
  generalize hN : (1000 : Nat) = N
  rw [e1, mbnd_eq, ecl, mbnd_eq]
  have fr2 : ∀ a b, ¬ (a = 12 ∧ (b = 26 ∨ b = 28 ∨ 30 ≤ b ∧ b < 45)) → (mup M1 12 26 1 (nI 0)) a b = M a b := fun a b hab => by rw [pm_ne (by omega), fr1 a b hab]
  have x26 : (mup M1 12 26 1 (nI 0)) 12 26 1 = nI 0 := by rw [mup_at, if_pos (by decide)]
  have x263 : (mup M1 12 26 1 (nI 0)) 12 26 3 = M1 12 26 3 := by rw [mup_at, if_neg (by decide)]
  have x28 : ∀ b, b ≠ 26 → (mup M1 12 26 1 (nI 0)) 12 b = M1 12 b := fun b hb => pm_ne (by omega)
  generalize mup M1 12 26 1 (nI 0) = M2 at *
  refine ⟨fun q => ?_, fun q => ?_⟩
  · obtain ⟨rfl, hl⟩ := hbad q
    rw [if_neg (show ¬ nI (prS tx L 13 0).2.1 = -1 by show ¬ _ = -nI 1; rw [nI_eqN (by omega) (by decide) (by decide)]; exact id), mlet_eq, wp_some]
    refine ⟨rfl, hl, ?_, ?_, fun k hk => ?_, fun a b hab => ?_⟩
    · rw [mup_at, if_pos (by decide)]
    · rw [mup_at, if_neg (by decide)]; exact x26
    · rw [mup_at, if_neg (by omega), fr2 12 16 (by decide)]
    · rw [pm_ne (by omega), fr2 a b (by omega)]
  · obtain ⟨rfl, hcnt, hrec, hc1, hc5⟩ := hok q
    generalize (prS tx L 13 0).2.2 = cnt at *
    rw [if_pos (show -nI 1 = -1 from rfl)]
    have hR2 : RC (M2 0) α := by rw [show M2 0 = M 0 from funext fun b => fr2 0 b (by omega)]; exact hR
    obtain ⟨⟨⟩, M3, e3, p1, p2⟩ := c_prepare (M := M2) (α := α) hx (by rw [fr2 12 17 (by decide)]; exact h1) hR2 b1 b6
    rw [e3, mbnd_eq]
    have hrec3 : RecA M3 tx L cnt := fun k hk => by
      obtain ⟨a1, w, a2, a3, a4, a5⟩ := hrec k hk
      refine ⟨a1, w, a2, a3, ?_, fun j hj => ?_⟩
      · rw [p2 12 (by omega), x28 28 (by decide)]; exact a4
      · rw [p2 12 (by omega), x28 (30 + k) (by omega)]; exact a5 j hj
    have hex := c_exec (tx := tx) (L := L) (cnt := cnt) (nx := nx) (α0 := α) hx (by omega) b1 b6 (fun M25 => (mbnd (f_X4_keep M25) fun r26 M27 => (some ((Sum.inr (M27 12 26 3)), M27)))) cnt N 0 H α M3 (by omega) (by omega) (by omega) hrec3 (by rw [p2 12 (by omega), x263]; exact hcnt) (by rw [p2 12 (by omega), fr2 12 17 (by decide)]; exact h1) p1 (by rw [p2 0 (by omega)]; exact hR2) hi
    refine ⟨⟨hc1, hc5, fun k hk => (hrec k hk).1⟩, fun β e => ?_, fun j cz e => ?_⟩
    · obtain ⟨i1, M4, k1, k2, k3⟩ := hex.1 β e
      refine ⟨i1, ?_⟩
      have k1' : f_X11_runCommands_L49 N 0 M3 (fun M25 => (mbnd (f_X4_keep M25) fun r26 M27 => (some ((Sum.inr (M27 12 26 3)), M27)))) = _ := k1
      rw [k1', wp_mbnd]
      refine wp_mono (c_keep (nx := nx) (K := K) hx hK (by rw [k3 12 (by decide), p2 12 (by omega), fr2 12 17 (by decide)]; exact h1) (by rw [k3 12 (by decide), p2 12 (by omega), fr2 12 17 (by decide)]; exact h2)) ?_
      rintro - M5 ⟨s1, s2, s3⟩
      rw [wp_some]
      refine ⟨?_, ?_, ?_, s1, s2, ?_, fun a b x1 x2 x3 => ?_⟩
      · rw [s3 12 26 (by decide), k3 12 (by decide), p2 12 (by omega), x263, hcnt]
      · rw [show M5 0 = M4 0 from funext fun b => s3 0 b (by omega)]; exact k2
      · rw [show M5 (1 + nx) = M4 (1 + nx) from funext fun b => s3 (1 + nx) b (by omega), k3 (1 + nx) (by omega)]; exact p1
      · rw [s3 12 26 (by decide), k3 12 (by decide), p2 12 (by omega)]; exact x26
      · rw [s3 a b (by omega), k3 a x1, p2 a x2, fr2 a b (by omega)]
    · obtain ⟨j1, c1, c2, M4, k1, k2, ⟨k3, k4, k5, k6⟩, k7⟩ := hex.2 j cz e
      refine ⟨c1, c2, ?_⟩
      have k1' : f_X11_runCommands_L49 N 0 M3 (fun M25 => (mbnd (f_X4_keep M25) fun r26 M27 => (some ((Sum.inr (M27 12 26 3)), M27)))) = _ := k1
      rw [k1', wp_some]
      refine ⟨rfl, k2, ⟨k3, k4, k5, fun k x1 x2 x3 => ?_⟩, ?_, fun a b x1 x2 x3 => ?_⟩
      · rw [k6 k x1 x2 x3, p2 12 (by omega), fr2 12 16 (by decide)]
      · rw [k7 12 26 (by decide) (by decide), p2 12 (by omega)]; exact x26
      · rw [k7 a b x1 (by omega), p2 a x2, fr2 a b (by omega)]
/-- the model -/
theorem m_run {M : Mem} {tx : Nat → Nat} {L K H : Nat} {α : Sp} {αh : Nat → Sp} (hl60 : L ≤ 60) (h12 : M 12 47 12 = nI L) (htx : ∀ i, i < L → M 12 53 i = nI (tx i) ∧ tx i < 65536) (hS : M 12 48 = enc α) (hK : K ≤ 8) (h6 : M 12 47 6 = nI K) (hh : ∀ k, k < K → ∀ j, j < 92 → M 12 51 (92 * k + j) = enc (αh k) j) (hi : Inv H α) (hH : H < 800000) (hcls : (prS tx L 13 0).1 = true → (1 ≤ (prS tx L 13 0).2.2 ∧ 5 * (prS tx L 13 0).2.2 ≤ L + 1 ∧ ∀ k, k < (prS tx L 13 0).2.2 → (cmdS tx L (Pp tx L k) z0).1 = true)) :
    ((prS tx L 13 0).1 = false → wp (f_X12_runCommands M) fun r M1 => M1 12 47 0 = nI 1 ∧ M1 12 47 14 = nI (prS tx L 13 0).2.1 ∧ M1 12 47 12 = nI 0 ∧ (∀ k, k ≠ 0 → k ≠ 12 → k ≠ 14 → k ≠ 19 → k ≠ 20 → k ≠ 21 → k ≠ 22 → M1 12 47 k = M 12 47 k) ∧ ∀ a b, ¬ (a = 12 ∧ (b = 47 ∨ b = 49 ∨ b = 54)) → M1 a b = M a b) ∧
    ((prS tx L 13 0).1 = true →
      (∀ β, exS tx L (prS tx L 13 0).2.2 0 α = .inr β → wp (f_X12_runCommands M) fun r M1 => r = nI (prS tx L 13 0).2.2 ∧ M1 12 47 0 = nI 0 ∧ M1 12 47 12 = nI 0 ∧ M1 12 48 = enc β ∧ M1 12 47 6 = nI (minK K) ∧ (∀ k, k < minK K → ∀ j, j < 92 → M1 12 51 (92 * k + j) = enc (pushH αh K α k) j) ∧ (∀ k, k ≠ 0 → k ≠ 6 → k ≠ 12 → k ≠ 15 → k ≠ 19 → k ≠ 20 → k ≠ 21 → k ≠ 22 → M1 12 47 k = M 12 47 k) ∧ ∀ a b, ¬ (a = 12 ∧ (b = 47 ∨ b = 48 ∨ b = 49 ∨ b = 51 ∨ b = 54 ∨ b = 56)) → M1 a b = M a b) ∧
      (∀ j cz, exS tx L (prS tx L 13 0).2.2 0 α = .inl (j, cz) → wp (f_X12_runCommands M) fun r M1 => M1 12 47 0 = nI 2 ∧ M1 12 47 12 = nI 0 ∧ (∃ β, M1 12 48 = enc (cutSp α β)) ∧ (M1 12 47 16 = nI 11 ∧ M1 12 47 17 = nI j ∧ M1 12 47 18 = nI cz) ∧ (∀ k, k ≠ 0 → k ≠ 12 → k ≠ 15 → k ≠ 16 → k ≠ 17 → k ≠ 18 → k ≠ 19 → k ≠ 20 → k ≠ 21 → k ≠ 22 → M1 12 47 k = M 12 47 k) ∧ ∀ a b, ¬ (a = 12 ∧ (b = 47 ∨ b = 48 ∨ b = 49 ∨ b = 54 ∨ b = 56)) → M1 a b = M a b)) := by
  unfold f_X12_runCommands
  generalize hN : (1000 : Nat) = N
  rw [m_remembers, mbnd_eq]
  have a12 : (mup (fil (mup M 12 47 0 (nI 0)) 12 49 0 92 (M 12 48)) 12 47 19 (nI 0)) 12 47 12 = nI L := by rw [mup_at, if_neg (by decide), fil_ne (by decide), mup_at, if_neg (by decide)]; exact h12
  simp only [mlet_eq (α := Mem), lit_0, lit_1, lit_2, lit_3, lit_4, lit_5, lit_6, lit_7, lit_8, lit_9, lit_10, lit_11, lit_12, lit_13, lit_14, lit_15, lit_16, lit_20, lit_23, lit_24, lit_31, lit_32, lit_39, lit_43, lit_45, lit_47, lit_48, lit_56, lit_57, lit_59, lit_60, lit_62, lit_63, lit_89, lit_92, lit_96, lit_97, lit_99, lit_100, lit_102, lit_103, lit_104, lit_110, lit_111, lit_115, lit_117, lit_194, lit_200, lit_644, lit_736, lit_999, lit_1000, lit_9999, lit_10000, lit_1000000000, a12]
  have hM7 : ∃ M7, M7 = mup (mup (mup (mup (mup (fil (mup M 12 47 0 (nI 0)) 12 49 0 92 (M 12 48)) 12 47 19 (nI 0)) 12 47 20 (nI L)) 12 47 12 (nI 0)) 12 47 21 (nI 0)) 12 47 22 (nI 0) := ⟨_, rfl⟩
  obtain ⟨M7, hM7⟩ := hM7
  rw [← hM7]
  have f47 : ∀ k, k ≠ 0 → k ≠ 12 → k ≠ 19 → k ≠ 20 → k ≠ 21 → k ≠ 22 → M7 12 47 k = M 12 47 k := fun k x1 x2 x3 x4 x5 x6 => by
    rw [hM7, mup_at, if_neg (by omega), mup_at, if_neg (by omega), mup_at, if_neg (by omega), mup_at, if_neg (by omega), mup_at, if_neg (by omega), fil_ne (by decide), mup_at, if_neg (by omega)]
  have fo : ∀ a b, ¬ (a = 12 ∧ (b = 47 ∨ b = 49)) → M7 a b = M a b := fun a b hab => by
    rw [hM7, pm_ne (by omega), pm_ne (by omega), pm_ne (by omega), pm_ne (by omega), pm_ne (by omega), fil_ne (by omega), pm_ne (by omega)]
  have f49 : ∀ j, j < 92 → M7 12 49 j = enc α j := fun j hj => by
    rw [hM7, pm_ne (by decide), pm_ne (by decide), pm_ne (by decide), pm_ne (by decide), pm_ne (by decide), fil_at, if_pos (by omega), hS]
  have g0 : M7 12 47 0 = nI 0 := by
    rw [hM7, mup_at, if_neg (by decide), mup_at, if_neg (by decide), mup_at, if_neg (by decide), mup_at, if_neg (by decide), mup_at, if_neg (by decide), fil_ne (by decide), mup_at, if_pos (by decide)]
  have g12 : M7 12 47 12 = nI 0 := by
    rw [hM7, mup_at, if_neg (by decide), mup_at, if_neg (by decide), mup_at, if_pos (by decide)]
  have g19 : M7 12 47 19 = nI 0 := by
    rw [hM7, mup_at, if_neg (by decide), mup_at, if_neg (by decide), mup_at, if_neg (by decide), mup_at, if_neg (by decide), mup_at, if_pos (by decide)]
  have g20 : M7 12 47 20 = nI L := by
    rw [hM7, mup_at, if_neg (by decide), mup_at, if_neg (by decide), mup_at, if_neg (by decide), mup_at, if_pos (by decide)]
  have g21 : M7 12 47 21 = nI 0 := by
    rw [hM7, mup_at, if_neg (by decide), mup_at, if_pos (by decide)]
  have g22 : M7 12 47 22 = nI 0 := by
    rw [hM7, mup_at, if_pos (by decide)]
  clear hM7 a12
  have hMst : Mst M7 M7 tx L 0 (r0 (Pp tx L 0) z0) := ⟨⟨hl60, g20, fun i hi => by rw [fo 12 53 (by decide)]; exact htx i hi⟩, ⟨g19, g21, g22⟩, ⟨Nat.zero_le _, by decide⟩, fun _ j hj => absurd hj (Nat.not_lt_zero _), fun _ _ _ _ => rfl⟩
  obtain ⟨⟨⟩, M9, e9, r1, ⟨r2, r3, r4⟩, r5, r6, r7⟩ := m_readsOne hMst
  have hMP : MP M7 M9 tx L 0 := ⟨r1, ⟨r2, r3, r4⟩, r5, fun i hi => absurd hi (Nat.not_lt_zero _), r6, fun a b k hab => r7 a b k (by omega)⟩
  rw [e9, mbnd_eq]
  have key : ∀ (kk : Mem → Option (Int32 × Mem)) (Q : Int32 → Mem → Prop), (∀ M17, QFr M7 M17 → TxM M17 tx L → ((prS tx L 13 0).1 = true → M17 12 47 22 = nI 0 ∧ (∃ p, L ≤ p ∧ p ≤ 60 ∧ M17 12 47 19 = nI p) ∧ M17 12 47 21 = nI (prS tx L 13 0).2.2 ∧ RecMA M17 tx L (prS tx L 13 0).2.2) → ((prS tx L 13 0).1 = false → M17 12 47 19 = nI (prS tx L 13 0).2.1 ∧ (M17 12 47 22 = nI 1 ∨ M17 12 47 22 = nI 0 ∧ (prS tx L 13 0).2.1 < L)) → wp (kk M17) Q) → wp (f_X12_runCommands_L36 N M9 kk) Q := fun kk Q h => by
    obtain ⟨M17, k, x1, x2, x3, x4⟩ := m_parseL (M0 := M7) (tx := tx) (L := L) kk 12 N 0 M9 rfl (by omega) (Nat.zero_le _) (Nat.zero_le _) hMP
    rw [k]
    exact h M17 x1 x2 x3 x4
  refine ⟨fun q => key _ _ fun M17 fr t hok hbad => ?_, fun q => ⟨fun β e => key _ _ fun M17 fr t hok hbad => ?_, fun j cz e => key _ _ fun M17 fr t hok hbad => ?_⟩⟩
  · obtain ⟨e19, e22⟩ := hbad q
    have e20 := t.2.1
    have g : ∀ r : Int32, (M17 12 47 22 = nI 1 ∨ M17 12 47 22 = nI 0 ∧ (prS tx L 13 0).2.1 < L) → True := fun _ _ => trivial
    have fin : wp (some (nI 0, mup (mup M17 12 47 14 (nI (prS tx L 13 0).2.1)) 12 47 0 (nI 1))) (fun (r : Int32) M1 => M1 12 47 0 = nI 1 ∧ M1 12 47 14 = nI (prS tx L 13 0).2.1 ∧ M1 12 47 12 = nI 0 ∧ (∀ k, k ≠ 0 → k ≠ 12 → k ≠ 14 → k ≠ 19 → k ≠ 20 → k ≠ 21 → k ≠ 22 → M1 12 47 k = M 12 47 k) ∧ ∀ a b, ¬ (a = 12 ∧ (b = 47 ∨ b = 49 ∨ b = 54)) → M1 a b = M a b) := by
      rw [wp_some]
      refine ⟨?_, ?_, ?_, fun k x0 x1 x2 x3 x4 x5 x6 => ?_, fun a b hab => ?_⟩
      · rw [mup_at, if_pos (by decide)]
      · rw [mup_at, if_neg (by decide), mup_at, if_pos (by decide)]
      · rw [mup_at, if_neg (by decide), mup_at, if_neg (by decide), fr 12 47 12 (by decide)]; exact g12
      · rw [mup_at, if_neg (by omega), mup_at, if_neg (by omega), fr 12 47 k (by omega), f47 k x0 x1 x3 x4 x5 x6]
      · rw [pm_ne (by omega), pm_ne (by omega), ← fo a b (by omega)]
        funext k
        exact fr a b k (by omega)
    unfold f_X12_fails
    rcases e22 with e22 | ⟨e22, hlt⟩
    · simp (disch := omega) only [lit_0, lit_1, lit_2, lit_3, lit_4, lit_5, lit_6, lit_7, lit_8, lit_9, lit_10, lit_11, lit_12, lit_13, lit_14, lit_15, lit_16, lit_20, lit_23, lit_24, lit_31, lit_32, lit_39, lit_43, lit_45, lit_47, lit_48, lit_56, lit_57, lit_59, lit_60, lit_62, lit_63, lit_89, lit_92, lit_96, lit_97, lit_99, lit_100, lit_102, lit_103, lit_104, lit_110, lit_111, lit_115, lit_117, lit_194, lit_200, lit_644, lit_736, lit_999, lit_1000, lit_9999, lit_10000, lit_1000000000, ↓wp_mlet, ↓wp_mbp, ↓wp_ite, ↓wp_mix, ↓wp_mdiv, ↓wp_mnz, ↓wp_some, ↓wp_mbnd, ↓mlet_eq, ↓mbp_eq, ↓mbnd_eq, ↓mix_ite, ↓mdiv_ite, ↓mnz_ite, nI_add, nI_mul, nI_nat, nI_ltE, nI_leE, nI_eqE, nI_eqN, nI_Neq, nI_Nlt, nI_Nle, nI_ltN, nI_leN, ↓reduceIte, ↓Nat.reduceEqDiff, and_f, nt_e, nt_t, nl_t, nl_f, ne_t, ne_f, and_self, or_self, or_true, true_or, or_false, false_or, if_true, if_false, and_true, true_and, and_false, false_and, not_true, not_false_iff, e22, e19]
      rw [wp_some] at fin
      exact fin
    · have p60 : (prS tx L 13 0).2.1 < 2147483648 := by omega
      simp (disch := omega) only [lit_0, lit_1, lit_2, lit_3, lit_4, lit_5, lit_6, lit_7, lit_8, lit_9, lit_10, lit_11, lit_12, lit_13, lit_14, lit_15, lit_16, lit_20, lit_23, lit_24, lit_31, lit_32, lit_39, lit_43, lit_45, lit_47, lit_48, lit_56, lit_57, lit_59, lit_60, lit_62, lit_63, lit_89, lit_92, lit_96, lit_97, lit_99, lit_100, lit_102, lit_103, lit_104, lit_110, lit_111, lit_115, lit_117, lit_194, lit_200, lit_644, lit_736, lit_999, lit_1000, lit_9999, lit_10000, lit_1000000000, ↓wp_mlet, ↓wp_mbp, ↓wp_ite, ↓wp_mix, ↓wp_mdiv, ↓wp_mnz, ↓wp_some, ↓wp_mbnd, ↓mlet_eq, ↓mbp_eq, ↓mbnd_eq, ↓mix_ite, ↓mdiv_ite, ↓mnz_ite, nI_add, nI_mul, nI_nat, nI_ltE, nI_leE, nI_eqE, nI_eqN, nI_Neq, nI_Nlt, nI_Nle, nI_ltN, nI_leN, ↓reduceIte, ↓Nat.reduceEqDiff, and_f, nt_e, nt_t, nl_t, nl_f, ne_t, ne_f, and_self, or_self, or_true, true_or, or_false, false_or, if_true, if_false, and_true, true_and, and_false, false_and, not_true, not_false_iff, e22, e20, e19]
      rw [wp_some] at fin
      exact fin
  · obtain ⟨e22, ⟨p, p1, p2, e19⟩, e21, hrec⟩ := hok q
    obtain ⟨c1, c5, coks⟩ := hcls q
    have e20 := t.2.1
    generalize (prS tx L 13 0).2.2 = cnt at *
    have f17 : ∀ a b, ¬ (a = 12 ∧ (b = 47 ∨ b = 49 ∨ b = 54)) → M17 a b = M a b := fun a b hab => by
      rw [← fo a b (by omega)]
      funext k
      exact fr a b k (by omega)
    have k17 : ∀ k, k ≠ 0 → k ≠ 12 → k ≠ 19 → k ≠ 20 → k ≠ 21 → k ≠ 22 → M17 12 47 k = M 12 47 k := fun k x1 x2 x3 x4 x5 x6 => by rw [fr 12 47 k (by omega), f47 k x1 x2 x3 x4 x5 x6]
    have k49 : ∀ j, j < 92 → M17 12 49 j = enc α j := fun j hj => by rw [fr 12 49 j (by omega)]; exact f49 j hj
    have S17 : M17 12 48 = enc α := by rw [f17 12 48 (by decide)]; exact hS
    have key2 : ∀ (kk : Mem → Option (Int32 × Mem)) (Q : Int32 → Mem → Prop), (∀ M4, M4 12 48 = enc β → (∀ k, k ≠ 15 → M4 12 47 k = M17 12 47 k) → (∀ a b, ¬ (a = 12 ∧ (b = 47 ∨ b = 48 ∨ b = 56)) → M4 a b = M17 a b) → wp (kk M4) Q) → wp (f_X12_runCommands_L104 N (nI 0) M17 kk) Q := fun kk Q h => by
      obtain ⟨M4, k, x1, x2, x3⟩ := (m_exec (tx := tx) (L := L) (cnt := cnt) (α0 := α) (by omega) kk cnt N 0 H α M17 (by omega) (by omega) (by omega) coks hrec e21 k49 S17 hi).1 β e
      rw [k]
      exact h M4 x1 x2 x3
    simp (disch := omega) only [lit_0, lit_1, lit_2, lit_3, lit_4, lit_5, lit_6, lit_7, lit_8, lit_9, lit_10, lit_11, lit_12, lit_13, lit_14, lit_15, lit_16, lit_20, lit_23, lit_24, lit_31, lit_32, lit_39, lit_43, lit_45, lit_47, lit_48, lit_56, lit_57, lit_59, lit_60, lit_62, lit_63, lit_89, lit_92, lit_96, lit_97, lit_99, lit_100, lit_102, lit_103, lit_104, lit_110, lit_111, lit_115, lit_117, lit_194, lit_200, lit_644, lit_736, lit_999, lit_1000, lit_9999, lit_10000, lit_1000000000, ↓wp_mlet, ↓wp_mbp, ↓wp_ite, ↓wp_mix, ↓wp_mdiv, ↓wp_mnz, ↓wp_some, ↓wp_mbnd, ↓mlet_eq, ↓mbp_eq, ↓mbnd_eq, ↓mix_ite, ↓mdiv_ite, ↓mnz_ite, nI_add, nI_mul, nI_nat, nI_ltE, nI_leE, nI_eqE, nI_eqN, nI_Neq, nI_Nlt, nI_Nle, nI_ltN, nI_leN, ↓reduceIte, ↓Nat.reduceEqDiff, and_f, nt_e, nt_t, nl_t, nl_f, ne_t, ne_f, and_self, or_self, or_true, true_or, or_false, false_or, if_true, if_false, and_true, true_and, and_false, false_and, not_true, not_false_iff, e22, e20, e19]
    refine key2 _ _ fun M4 y1 y2 y3 => ?_
    rw [y2 21 (by decide), e21, wp_mbnd]
    refine wp_mono (m_changed (nx := 0) (αh := αh) (α := α) (K := K) hK (by rw [y2 6 (by decide), k17 6 (by decide) (by decide) (by decide) (by decide) (by decide) (by decide)]; exact h6) (fun k hk j hj => by rw [y3 12 51 (by decide), f17 12 51 (by decide)]; exact hh k hk j hj) (fun j hj => by rw [y3 12 49 (by decide)]; exact k49 j hj)) ?_
    rintro r M5 ⟨rfl, s1, s2, s3, s4⟩
    rw [wp_some]
    refine ⟨rfl, ?_, ?_, ?_, s1, s2, fun k x0 x1 x2 x3 x4 x5 x6 x7 => ?_, fun a b hab => ?_⟩
    · rw [s3 0 (by decide), y2 0 (by decide), fr 12 47 0 (by decide)]; exact g0
    · rw [s3 12 (by decide), y2 12 (by decide), fr 12 47 12 (by decide)]; exact g12
    · rw [s4 12 48 (by decide)]; exact y1
    · rw [s3 k x1, y2 k x3, k17 k x0 x2 x4 x5 x6 x7]
    · rw [s4 a b (by omega), y3 a b (by omega), f17 a b (by omega)]
  · obtain ⟨e22, ⟨p, p1, p2, e19⟩, e21, hrec⟩ := hok q
    obtain ⟨c1, c5, coks⟩ := hcls q
    have e20 := t.2.1
    generalize (prS tx L 13 0).2.2 = cnt at *
    have f17 : ∀ a b, ¬ (a = 12 ∧ (b = 47 ∨ b = 49 ∨ b = 54)) → M17 a b = M a b := fun a b hab => by
      rw [← fo a b (by omega)]
      funext k
      exact fr a b k (by omega)
    have k17 : ∀ k, k ≠ 0 → k ≠ 12 → k ≠ 19 → k ≠ 20 → k ≠ 21 → k ≠ 22 → M17 12 47 k = M 12 47 k := fun k x1 x2 x3 x4 x5 x6 => by rw [fr 12 47 k (by omega), f47 k x1 x2 x3 x4 x5 x6]
    have k49 : ∀ j, j < 92 → M17 12 49 j = enc α j := fun j hj => by rw [fr 12 49 j (by omega)]; exact f49 j hj
    have S17 : M17 12 48 = enc α := by rw [f17 12 48 (by decide)]; exact hS
    have key2 : ∀ (kk : Mem → Option (Int32 × Mem)) (Q : Int32 → Mem → Prop), (∀ r M4, (∃ β, M4 12 48 = enc (cutSp α β)) → (M4 12 47 16 = nI 11 ∧ M4 12 47 17 = nI j ∧ M4 12 47 18 = nI cz ∧ M4 12 47 0 = nI 2) → EFr M17 M4 → Q r M4) → wp (f_X12_runCommands_L104 N (nI 0) M17 kk) Q := fun kk Q h => by
      obtain ⟨r, M4, k, x1, x2, x3⟩ := (m_exec (tx := tx) (L := L) (cnt := cnt) (α0 := α) (by omega) kk cnt N 0 H α M17 (by omega) (by omega) (by omega) coks hrec e21 k49 S17 hi).2 j cz e
      rw [k, wp_some]
      exact h r M4 x1 x2 x3
    simp (disch := omega) only [lit_0, lit_1, lit_2, lit_3, lit_4, lit_5, lit_6, lit_7, lit_8, lit_9, lit_10, lit_11, lit_12, lit_13, lit_14, lit_15, lit_16, lit_20, lit_23, lit_24, lit_31, lit_32, lit_39, lit_43, lit_45, lit_47, lit_48, lit_56, lit_57, lit_59, lit_60, lit_62, lit_63, lit_89, lit_92, lit_96, lit_97, lit_99, lit_100, lit_102, lit_103, lit_104, lit_110, lit_111, lit_115, lit_117, lit_194, lit_200, lit_644, lit_736, lit_999, lit_1000, lit_9999, lit_10000, lit_1000000000, ↓wp_mlet, ↓wp_mbp, ↓wp_ite, ↓wp_mix, ↓wp_mdiv, ↓wp_mnz, ↓wp_some, ↓wp_mbnd, ↓mlet_eq, ↓mbp_eq, ↓mbnd_eq, ↓mix_ite, ↓mdiv_ite, ↓mnz_ite, nI_add, nI_mul, nI_nat, nI_ltE, nI_leE, nI_eqE, nI_eqN, nI_Neq, nI_Nlt, nI_Nle, nI_ltN, nI_leN, ↓reduceIte, ↓Nat.reduceEqDiff, and_f, nt_e, nt_t, nl_t, nl_f, ne_t, ne_f, and_self, or_self, or_true, true_or, or_false, false_or, if_true, if_false, and_true, true_and, and_false, false_and, not_true, not_false_iff, e22, e20, e19]
    refine key2 _ _ fun r M4 y1 ⟨y2, y3, y4, y5⟩ ⟨y6, y7⟩ => ?_
    refine ⟨y5, ?_, y1, ⟨y2, y3, y4⟩, fun k x0 x1 x2 x3 x4 x5 x6 x7 x8 x9 => ?_, fun a b hab => ?_⟩
    · rw [y6 12 (by decide) (by decide) (by decide) (by decide) (by decide), fr 12 47 12 (by decide)]; exact g12
    · rw [y6 k x0 x2 x3 x4 x5, k17 k x0 x1 x6 x7 x8 x9]
    · rw [y7 a b (by omega), f17 a b (by omega)]
theorem pair_runCommands {n : Nat} {M : Mem} (hr : Rel n M) (hn : n < 512) : Pair n (fun x => if x = 2 then 1 else if x = 3 then 2 else 0) M f_X11_runCommands f_X12_runCommands := by
  obtain ⟨α, αh, αs, K, nx, fed, b, H, hR, hS, hHs, hs, ⟨hr1, hr2, hr3, hr4⟩, hi, hih, his, hbb⟩ := hr
  obtain ⟨f1, f2, f3, f4⟩ := hr3
  obtain ⟨x1, x2, x3, x4, x5, x6, x7⟩ := id hHs
  have f5 : ∀ i, i < fed → M 12 27 i = nI (M 12 27 i).toNatClampNeg ∧ (M 12 27 i).toNatClampNeg < 65536 ∧ M 12 53 i = nI (M 12 27 i).toNatClampNeg := fun i hi' => by
    obtain ⟨c, c1, c2, c3⟩ := f4 i hi'
    rw [c2, c3, nI_nat (by omega)]
    exact ⟨rfl, c1, rfl⟩
  obtain ⟨tx, htx⟩ : ∃ tx : Nat → Nat, tx = fun i => (M 12 27 i).toNatClampNeg := ⟨_, rfl⟩
  have ht : Txt M tx fed := ⟨f1, f2, fun i hi' => by rw [htx]; exact ⟨(f5 i hi').1, (f5 i hi').2.1⟩⟩
  have ht2 : ∀ i, i < fed → M 12 53 i = nI (tx i) ∧ tx i < 65536 := fun i hi' => by rw [htx]; exact ⟨(f5 i hi').2.2, (f5 i hi').2.1⟩
  clear htx f5
  obtain ⟨cbad, cok⟩ := c_run ht x1 x2 x3 x4 hR hi (by omega)
  have hcls := fun q => (cok q).1
  unfold Pair
  cases q : (prS tx fed 13 0).1 with
  | false =>
    refine wp_mono (cbad q) ?_
    rintro o M1 ⟨rfl, c1, c2, c3, c4, c5⟩
    have mr := m_run (M := M1) (tx := tx) (L := fed) (K := K) (H := H) (α := α) (αh := αh) f1 (by rw [c5 12 47 (by decide)]; exact f3) (fun i hi' => by rw [c5 12 53 (by decide)]; exact ht2 i hi') (by rw [c5 12 48 (by decide)]; exact hS) x2 (by rw [c5 12 47 (by decide)]; exact x5) (fun k hk j hj => by rw [c5 12 51 (by decide)]; exact x7 k hk j hj) hi (by omega) hcls
    refine wp_mono (mr.1 q) ?_
    rintro r M2 ⟨d1, d2, d3, d4, d5⟩
    have fr : ∀ a b, ¬ (a = 12 ∧ (b = 16 ∨ b = 26 ∨ b = 28 ∨ 30 ≤ b ∧ b < 45 ∨ b = 47 ∨ b = 49 ∨ b = 54)) → M2 a b = M a b := fun a b hab => by rw [d5 a b (by omega), c5 a b (by omega)]
    have h16 : M2 12 16 = M1 12 16 := d5 12 16 (by decide)
    have h47 : ∀ k, k ≠ 0 → k ≠ 12 → k ≠ 14 → k ≠ 19 → k ≠ 20 → k ≠ 21 → k ≠ 22 → M2 12 47 k = M 12 47 k := fun k y1 y2 y3 y4 y5 y6 y7 => by rw [d4 k y1 y2 y3 y4 y5 y6 y7, c5 12 47 (by decide)]
    refine ⟨⟨α, αh, αs, K, nx, 0, b, H, ?_, ?_, ?_, ?_, ⟨?_, ?_, ?_, ?_⟩, hi, hih, his, by omega⟩, d1, by decide, by decide⟩
    · rw [show M2 0 = M 0 from funext fun b => fr 0 b (by omega)]; exact hR
    · rw [fr 12 48 (by decide)]; exact hS
    · exact Hs_same hHs (fr 12 17 (by decide)) (h47 6 (by decide) (by decide) (by decide) (by decide) (by decide) (by decide) (by decide)) (fr 12 51 (by decide)) (fun a _ _ _ => funext fun b => fr a b (by omega))
    · exact Rs_same hs (by rw [h16, c4 3 (by decide)]) (h47 7 (by decide) (by decide) (by decide) (by decide) (by decide) (by decide) (by decide)) (funext fun b => fr 10 b (by omega)) (fr 12 50 (by decide))
    · exact Rr_same hr1 (fun i _ _ => by rw [h16, c4 i (by omega)]) (fun i _ _ => h47 i (by omega) (by omega) (by omega) (by omega) (by omega) (by omega) (by omega))
    · exact ⟨by rw [h16, c2, d2], Or.inr ⟨_, by omega, d2⟩⟩
    · refine ⟨Nat.zero_le _, ?_, d3, fun i hi' => absurd hi' (Nat.not_lt_zero _)⟩
      rw [d5 12 26 (by decide)]; exact c3
    · exact Ro_same hr4 (fr 12 45 (by decide)) (h47 13 (by decide) (by decide) (by decide) (by decide) (by decide) (by decide) (by decide)) (fr 12 46 (by decide)) (fr 12 55 (by decide))
  | true =>
    obtain ⟨⟨w1, w2, w3⟩, cA, cB⟩ := cok q
    cases e : exS tx fed (prS tx fed 13 0).2.2 0 α with
    | inr β =>
      obtain ⟨hiβ, hw⟩ := cA β e
      refine wp_mono hw ?_
      rintro o M1 ⟨rfl, c1, c2, c3, c4, c5, c6⟩
      have k47 : M1 12 47 = M 12 47 := c6 12 47 (by decide) (by omega) (by decide)
      have mr := m_run (M := M1) (tx := tx) (L := fed) (K := K) (H := H) (α := α) (αh := αh) f1 (by rw [k47]; exact f3) (fun i hi' => by rw [c6 12 53 (by decide) (by omega) (by decide)]; exact ht2 i hi') (by rw [c6 12 48 (by decide) (by omega) (by decide)]; exact hS) x2 (by rw [k47]; exact x5) (fun k hk j hj => by rw [c6 12 51 (by decide) (by omega) (by decide)]; exact x7 k hk j hj) hi (by omega) hcls
      refine wp_mono ((mr.2 q).1 β e) ?_
      rintro r M2 ⟨rfl, d1, d2, d3, d4, d5, d6, d7⟩
      have fr : ∀ a b, a ≠ 0 → a ≠ 1 + nx → ¬ (a = 12 ∧ (b = 17 ∨ b = 26 ∨ b = 28 ∨ 30 ≤ b ∧ b < 45 ∨ b = 47 ∨ b = 48 ∨ b = 49 ∨ b = 51 ∨ b = 54 ∨ b = 56)) → M2 a b = M a b := fun a b h0 h1 hab => by rw [d7 a b (by omega), c6 a b h0 h1 (by omega)]
      have h47 : ∀ k, k ≠ 0 → k ≠ 6 → k ≠ 12 → k ≠ 15 → k ≠ 19 → k ≠ 20 → k ≠ 21 → k ≠ 22 → M2 12 47 k = M 12 47 k := fun k y1 y2 y3 y4 y5 y6 y7 y8 => by rw [d6 k y1 y2 y3 y4 y5 y6 y7 y8, k47]
      have fg : ∀ a, a ≠ 12 → M2 a = M1 a := fun a h => funext fun b => d7 a b (by omega)
      refine ⟨⟨β, pushH αh K α, αs, minK K, (nx + 1) % 9, 0, b, H + 24 * (prS tx fed 13 0).2.2, ?_, d3, ?_, ?_, ⟨?_, ?_, ?_, ?_⟩, hiβ, fun k hk => ?_, fun q => (his q).mono (by omega), by omega⟩, d1, rfl⟩
      · rw [fg 0 (by decide)]; exact c1
      · refine Hs_push (M1 := M1) hHs ?_ ?_ ?_ d4 d5 (fun a q1 q2 q3 => ?_)
        · rw [fg (1 + nx) (by omega)]; exact c2
        · rw [d7 12 17 (by decide)]; exact c3
        · rw [d7 12 17 (by decide)]; exact c4
        · funext b
          exact fr a b (by omega) q3 (by omega)
      · exact Rs_same hs (by rw [fr 12 16 (by decide) (by omega) (by decide)]) (h47 7 (by decide) (by decide) (by decide) (by decide) (by decide) (by decide) (by decide) (by decide)) (funext fun b => fr 10 b (by decide) (by omega) (by omega)) (fr 12 50 (by decide) (by omega) (by decide))
      · exact Rr_same hr1 (fun i _ _ => by rw [fr 12 16 (by decide) (by omega) (by decide)]) (fun i _ _ => h47 i (by omega) (by omega) (by omega) (by omega) (by omega) (by omega) (by omega) (by omega))
      · exact Re_same hr2 (by rw [fr 12 16 (by decide) (by omega) (by decide)]) (h47 14 (by decide) (by decide) (by decide) (by decide) (by decide) (by decide) (by decide) (by decide))
      · refine ⟨Nat.zero_le _, ?_, d2, fun i hi' => absurd hi' (Nat.not_lt_zero _)⟩
        rw [d7 12 26 (by decide)]; exact c5
      · exact Ro_same hr4 (fr 12 45 (by decide) (by omega) (by decide)) (h47 13 (by decide) (by decide) (by decide) (by decide) (by decide) (by decide) (by decide) (by decide)) (fr 12 46 (by decide) (by omega) (by decide)) (fr 12 55 (by decide) (by omega) (by decide))
      · unfold pushH
        unfold minK at hk
        split
        · split
          · exact hi.mono (by omega)
          · rename_i q1 q2
            rw [if_pos q1] at hk
            exact (hih (k + 1) (by omega)).mono (by omega)
        · split
          · exact hi.mono (by omega)
          · rename_i q1 q2
            rw [if_neg q1] at hk
            exact (hih k (by omega)).mono (by omega)
    | inl x =>
      obtain ⟨j, cz⟩ := x
      obtain ⟨z1, z2, hw⟩ := cB j cz e
      refine wp_mono hw ?_
      rintro o M1 ⟨rfl, c1, ⟨c2, c3, c4, c5⟩, c6, c7⟩
      have k47 : M1 12 47 = M 12 47 := c7 12 47 (by decide) (by omega) (by decide)
      have mr := m_run (M := M1) (tx := tx) (L := fed) (K := K) (H := H) (α := α) (αh := αh) f1 (by rw [k47]; exact f3) (fun i hi' => by rw [c7 12 53 (by decide) (by omega) (by decide)]; exact ht2 i hi') (by rw [c7 12 48 (by decide) (by omega) (by decide)]; exact hS) x2 (by rw [k47]; exact x5) (fun k hk j hj => by rw [c7 12 51 (by decide) (by omega) (by decide)]; exact x7 k hk j hj) hi (by omega) hcls
      refine wp_mono ((mr.2 q).2 j cz e) ?_
      rintro r M2 ⟨d1, d2, ⟨β, d3⟩, ⟨d4, d5, d6⟩, d7, d8⟩
      have fr : ∀ a b, a ≠ 0 → a ≠ 1 + nx → ¬ (a = 12 ∧ (b = 16 ∨ b = 26 ∨ b = 28 ∨ 30 ≤ b ∧ b < 45 ∨ b = 47 ∨ b = 48 ∨ b = 49 ∨ b = 54 ∨ b = 56)) → M2 a b = M a b := fun a b h0 h1 hab => by rw [d8 a b (by omega), c7 a b h0 h1 (by omega)]
      have h16 : M2 12 16 = M1 12 16 := d8 12 16 (by decide)
      have h47 : ∀ k, k ≠ 0 → k ≠ 12 → k ≠ 15 → k ≠ 16 → k ≠ 17 → k ≠ 18 → k ≠ 19 → k ≠ 20 → k ≠ 21 → k ≠ 22 → M2 12 47 k = M 12 47 k := fun k y1 y2 y3 y4 y5 y6 y7 y8 y9 y10 => by rw [d7 k y1 y2 y3 y4 y5 y6 y7 y8 y9 y10, k47]
      have fg : ∀ a, a ≠ 12 → M2 a = M1 a := fun a h => funext fun b => d8 a b (by omega)
      refine ⟨⟨cutSp α β, αh, αs, K, nx, 0, b, H, ?_, d3, ?_, ?_, ⟨?_, ?_, ?_, ?_⟩, Inv_cg hi, hih, his, by omega⟩, d1, by decide, by decide⟩
      · rw [fg 0 (by decide)]; exact RC_cg c1
      · refine ⟨x1, x2, ?_, ?_, ?_, fun k hk => ?_, fun k hk j' hj => ?_⟩
        · rw [fr 12 17 (by decide) (by omega) (by decide)]; exact x3
        · rw [fr 12 17 (by decide) (by omega) (by decide)]; exact x4
        · rw [h47 6 (by decide) (by decide) (by decide) (by decide) (by decide) (by decide) (by decide) (by decide) (by decide) (by decide)]; exact x5
        · rw [show M2 (1 + (nx + 9 - K + k) % 9) = M (1 + (nx + 9 - K + k) % 9) from funext fun b => fr _ b (by omega) (by omega) (by omega)]
          exact x6 k hk
        · rw [fr 12 51 (by decide) (by omega) (by decide)]; exact x7 k hk j' hj
      · exact Rs_same hs (by rw [h16, c5 3 (by decide) (by decide) (by decide)]) (h47 7 (by decide) (by decide) (by decide) (by decide) (by decide) (by decide) (by decide) (by decide) (by decide) (by decide)) (funext fun b => fr 10 b (by decide) (by omega) (by omega)) (fr 12 50 (by decide) (by omega) (by decide))
      · refine ⟨11, cz, by decide, z2, d4, ?_, fun _ => ?_, d6, ?_⟩
        · rw [h16, c2]; rfl
        · rw [h16, c3, d5]
        · rw [h16, c4, if_neg (by omega)]
      · exact Re_same hr2 (by rw [h16, c5 11 (by decide) (by decide) (by decide)]) (h47 14 (by decide) (by decide) (by decide) (by decide) (by decide) (by decide) (by decide) (by decide) (by decide) (by decide))
      · refine ⟨Nat.zero_le _, ?_, d2, fun i hi' => absurd hi' (Nat.not_lt_zero _)⟩
        rw [d8 12 26 (by decide)]; exact c6
      · exact Ro_same hr4 (fr 12 45 (by decide) (by omega) (by decide)) (h47 13 (by decide) (by decide) (by decide) (by decide) (by decide) (by decide) (by decide) (by decide) (by decide) (by decide)) (fr 12 46 (by decide) (by omega) (by decide)) (fr 12 55 (by decide) (by omega) (by decide))
theorem rel_fresh : Rel 0 mFresh := by
  refine ⟨fun _ => 0, fun _ _ => 0, fun _ => 0, 0, 0, 0, 0, 0, ⟨⟨?_, ?_, ?_, ?_⟩, ?_, ?_, ⟨by omega, fr_0 (by decide), fr_0 (by decide), fun h => by omega⟩, ⟨⟨0, 0, by omega, by omega, fr_0 (by decide), rfl, fun h => absurd rfl h, fr_0 (by decide), rfl⟩, ⟨rfl, Or.inl rfl⟩, ⟨by omega, fr_0 (by decide), fr_0 (by decide), fun i h => by omega⟩, ⟨0, by omega, fr_0 (by decide), fr_0 (by decide), fun i h => by omega⟩⟩, ?_, fun k h => by omega, fun h => by omega, by omega⟩⟩
  · exact ⟨fr_g (by decide), fr_g (by decide), fr_g (by decide), fr_g (by decide), fun k _ => fr_g (by decide), fun k _ => fr_g (by decide), fun k _ h => absurd h (Nat.not_lt_zero k)⟩
  · exact ⟨fr_g (by decide), fr_g (by decide), fr_g (by decide), fr_g (by decide)⟩
  · exact ⟨fr_g (by decide), fr_g (by decide), fr_g (by decide), fun k _ => fr_g (by decide), fun k _ => fr_g (by decide), fun k _ h => absurd h (Nat.not_lt_zero k), fun k _ => ⟨0, by omega, fr_g (by decide)⟩⟩
  · exact ⟨fr_g (by decide), fun k _ h => absurd h (Nat.not_lt_zero k), fun k _ => ⟨0, by omega, fr_g (by decide)⟩⟩
  · funext j
    rw [enc_n2 (by omega)]
    exact fr_0 (by omega)
  · exact ⟨by omega, by omega, fr_0 (by decide), fr_0 (by decide), fr_0 (by decide), fun k h => by omega, fun k h => by omega⟩
  · unfold Inv
    simp
