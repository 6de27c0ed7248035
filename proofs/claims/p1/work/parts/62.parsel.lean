theorem lit_ge {tx : Nat → Nat} {L : Nat} {ls : List Int32} {r : Rdr} : r.2.1 ≤ (lit tx L ls r).2.1 := by
  unfold lit
  split
  · exact Nat.le_add_right _ _
  · exact Nat.le_refl _
theorem num_ge {tx : Nat → Nat} {L m : Nat} {r : Rdr} : r.2.1 ≤ (num tx L m r).2.1 := by
  unfold num
  split
  · split
    · exact Nat.le_refl _
    · exact Nat.le_add_right _ _
  · exact Nat.le_refl _
theorem dir_ge {tx : Nat → Nat} {L : Nat} {r : Rdr} : r.2.1 ≤ (dir tx L r).2.1 := by
  unfold dir
  split
  · split
    · exact Nat.le_add_right _ _
    · split
      · exact Nat.le_add_right _ _
      · exact Nat.le_refl _
  · exact Nat.le_refl _
theorem opF_ge {tx : Nat → Nat} {L : Nat} {c : Int32} {r : Rdr} : r.2.1 ≤ (opF tx L c r).2.1 := by
  unfold opF
  split
  · exact num_ge
  split
  · exact num_ge
  split
  · exact dir_ge
  · exact lit_ge
theorem frmS_ge {tx : Nat → Nat} {L : Nat} : ∀ (cs : List Int32) (r : Rdr), r.2.1 ≤ (frmS tx L cs r).2.1
  | [], r => Nat.le_refl _
  | c :: cs, r => by
    rw [frm_c]
    split
    · split
      · exact frmS_ge cs r
      · exact Nat.le_refl _
    · split
      · exact Nat.le_trans opF_ge (frmS_ge cs _)
      · exact opF_ge
theorem lit_ok {tx : Nat → Nat} {L : Nat} {ls : List Int32} {r : Rdr} (hr : r.1 = true) (h : (lit tx L ls r).1 = true) : ml tx L ls r.2.1 = ls.length ∧ (lit tx L ls r) = (true, r.2.1 + ls.length, r.2.2) := by
  unfold lit at h ⊢
  rw [if_pos hr] at h ⊢
  have h1 : ml tx L ls r.2.1 = ls.length := by simpa using h
  rw [h1]
  exact ⟨rfl, by rw [decide_eq_true rfl]⟩
def z0 : Nat → Nat := fun _ => 0
theorem cmd_some {tx : Nat → Nat} {L p w : Nat} (h : wsel tx L p = some w) : cmdS tx L p z0 = if (lit tx L (ltr w) (r0 p z0)).1 = true then frmS tx L (frm w) (lit tx L (ltr w) (r0 p z0)) else lit tx L (ltr w) (r0 p z0) := by
  unfold cmdS
  rw [h]
theorem cmd_none {tx : Nat → Nat} {L p : Nat} (h : wsel tx L p = none) : cmdS tx L p z0 = (false, p, 0, z0) := by
  unfold cmdS
  rw [h]
theorem cmd_ge {tx : Nat → Nat} {L p : Nat} (h : (cmdS tx L p z0).1 = true) : p + 4 ≤ (cmdS tx L p z0).2.1 := by
  cases hw : wsel tx L p with
  | none => rw [cmd_none hw] at h; cases h
  | some w =>
    have hw11 := (rwS_sel.1 w hw).1
    obtain ⟨a1, a2, a3, a4, a5, a6, a7, a8⟩ := ltr_all ⟨w, hw11⟩
    simp only [] at a1 a2 a3 a4 a5 a6 a7 a8
    rw [cmd_some hw] at h ⊢
    by_cases q : (lit tx L (ltr w) (r0 p z0)).1 = true
    · rw [if_pos q] at h ⊢
      obtain ⟨b1, b2⟩ := lit_ok rfl q
      rw [b2] at h ⊢
      have g := frmS_ge (tx := tx) (L := L) (frm w) (true, (r0 p z0).2.1 + (ltr w).length, (r0 p z0).2.2)
      have g0 : (r0 p z0).2.1 = p := rfl
      rw [g0] at g h ⊢
      rcases a8 with rfl | a8
      · have e9 : frm 9 = [32, 100, 32, 100] := rfl
        have l9 : (ltr 9).length = 3 := rfl
        rw [e9, l9, frm_c, if_neg (by decide)] at h ⊢
        by_cases r : (opF tx L 32 (true, p + 3, (r0 p z0).2.2)).1 = true
        · rw [if_pos r] at h ⊢
          have g2 := frmS_ge (tx := tx) (L := L) [100, 32, 100] (opF tx L 32 (true, p + 3, (r0 p z0).2.2))
          have g3 : opF tx L 32 (true, p + 3, (r0 p z0).2.2) = lit tx L [32] (true, p + 3, (r0 p z0).2.2) := by
            unfold opF
            rw [if_neg (by decide), if_neg (by decide), if_neg (by decide)]
          rw [g3] at g2 r ⊢
          obtain ⟨-, b3⟩ := lit_ok rfl r
          rw [b3] at g2 ⊢
          have : p + 3 + 1 ≤ (frmS tx L [100, 32, 100] (true, p + 3 + 1, (r0 p z0).2.2)).2.1 := g2
          exact this
        · rw [if_neg r] at h
          exact absurd h r
      · have : p + (ltr w).length ≤ (frmS tx L (frm w) (true, p + (ltr w).length, (r0 p z0).2.2)).2.1 := g
        omega
    · rw [if_neg q] at h
      exact absurd h q
/-- what the class has of command c -/
def RecC (M : Mem) (tx : Nat → Nat) (L p c : Nat) : Prop := ∃ w, wsel tx L p = some w ∧ w < 11 ∧ M 12 28 c = nI w ∧ ∀ j, j < (cmdS tx L p z0).2.2.1 → M 12 (30 + c) j = nI ((cmdS tx L p z0).2.2.2 j)
theorem c_readCommand {M : Mem} {tx : Nat → Nat} {L p c : Nat} (ht : Txt M tx L) (hp : M 12 26 2 = nI p) (h3 : M 12 26 3 = nI c) (hl : p ≤ L) (hc : c < 15) : wp (f_X2_readCommand M) fun v M1 => (v = nI (cmdS tx L p z0).1.toNat ∧ Txt M1 tx L ∧ M1 12 26 2 = nI (cmdS tx L p z0).2.1 ∧ (cmdS tx L p z0).2.1 ≤ L) ∧ ((cmdS tx L p z0).1 = true → M1 12 26 3 = nI (c + 1) ∧ RecC M1 tx L p c) ∧ ∀ a b k, ¬ (a = 12 ∧ (b = 26 ∨ b = 28 ∧ k = c ∨ b = 30 + c)) → M1 a b k = M a b k := by
  obtain ⟨s1, s2⟩ := rwS_sel (tx := tx) (L := L) (p := p)
  have hl60 := ht.1
  have ew : f_X2_readWord M = f_X2_readWord_L12 M 1000 (nI 0) (nI 0) (fun x9 => (mlet (mup M 12 26 2 ((M 12 26 2) + x9)) fun M10 => (some (none, M10)))) := rfl
  obtain ⟨w1, w2⟩ := c_words ht hp hl (fun x9 => (mlet (mup M 12 26 2 ((M 12 26 2) + x9)) fun M10 => (some (none, M10)))) 11 1000 0 0 rfl (by decide) (by decide)
  rw [← ew] at w1 w2
  have txt2 : ∀ q, Txt (mup M 12 26 2 (nI q)) tx L := fun q => ⟨hl60, by rw [mup_at, if_neg (by decide)]; exact ht.2.1, fun i hi => by rw [mup_at, if_neg (by omega)]; exact ht.2.2 i hi⟩
  have fail : ∀ q, p + q ≤ L → cmdS tx L p z0 = (false, p + q, 0, z0) → f_X2_readWord M = some (none, mup M 12 26 2 (nI (p + q))) → wp (f_X2_readCommand M) (fun v M1 => (v = nI (cmdS tx L p z0).1.toNat ∧ Txt M1 tx L ∧ M1 12 26 2 = nI (cmdS tx L p z0).2.1 ∧ (cmdS tx L p z0).2.1 ≤ L) ∧ ((cmdS tx L p z0).1 = true → M1 12 26 3 = nI (c + 1) ∧ RecC M1 tx L p c) ∧ ∀ a b k, ¬ (a = 12 ∧ (b = 26 ∨ b = 28 ∧ k = c ∨ b = 30 + c)) → M1 a b k = M a b k) := by
    intro q hq e1 e2
    unfold f_X2_readCommand
    rw [e2, mbnd_eq, e1]
    show wp (some ((0 : Int32), mup M 12 26 2 (nI (p + q)))) _
    rw [wp_some]
    refine ⟨⟨rfl, txt2 _, ?_, hq⟩, fun h => (by cases h), fun a b k hab => ?_⟩
    · rw [mup_at, if_pos (by decide)]
    · rw [mup_at, if_neg (by omega)]
  cases hw : wsel tx L p with
  | none =>
    have e := w2 0 (s2 hw)
    rw [hp, nI_add, mlet_eq] at e
    exact fail 0 (by omega) (by rw [cmd_none hw]; rfl) e
  | some w =>
    obtain ⟨w11, e⟩ := s1 w hw
    have hml := ml_L (tx := tx) (L := L) (ltr w) p hl
    obtain ⟨a1, a2, a3, a4, a5, a6, a7, a8⟩ := ltr_all ⟨w, w11⟩
    simp only [] at a1 a2 a3 a4 a5 a6 a7 a8
    by_cases q : ml tx L (ltr w) p = (ltr w).length
    · rw [if_pos q] at e
      have e1 := w1 _ _ e
      unfold f_X2_readCommand
      rw [e1, mbnd_eq]
      have x3 : (mup M 12 26 2 (nI (p + ml tx L (ltr w) p))) 12 26 3 = nI c := by rw [mup_at, if_neg (by decide)]; exact h3
      have hL : lit tx L (ltr w) (r0 p z0) = (true, p + ml tx L (ltr w) p, 0, z0) := by
        unfold lit
        rw [if_pos (show (r0 p z0).1 = true from rfl)]
        show (decide (ml tx L (ltr w) p = (ltr w).length), p + ml tx L (ltr w) p, 0, z0) = _
        rw [decide_eq_true q]
      have hcm : cmdS tx L p z0 = frmS tx L (frm w) (true, p + ml tx L (ltr w) p, 0, z0) := by rw [cmd_some hw, hL, if_pos rfl]
      have hC : Cst (mup M 12 28 c (nI w)) (mup (mup (mup M 12 26 2 (nI (p + ml tx L (ltr w) p))) 12 28 c (nI w)) 12 26 6 (nI 0)) tx L c (true, p + ml tx L (ltr w) p, 0, z0) := by
        refine ⟨⟨hl60, ?_, fun i hi => ?_⟩, ⟨?_, ?_, ?_⟩, ⟨by show p + _ ≤ L; omega, hc, Nat.zero_le _⟩, fun j hj => absurd hj (Nat.not_lt_zero _), fun a b hab => ?_⟩
        · rw [mup_at, if_neg (by decide), mup_at, if_neg (by omega), mup_at, if_neg (by decide)]; exact ht.2.1
        · rw [mup_at, if_neg (by omega), mup_at, if_neg (by omega), mup_at, if_neg (by omega)]; exact ht.2.2 i hi
        · rw [mup_at, if_neg (by decide), mup_at, if_neg (by omega), mup_at, if_pos (by decide)]
        · rw [mup_at, if_neg (by decide), mup_at, if_neg (by omega), mup_at, if_neg (by decide)]; exact h3
        · rw [mup_at, if_pos (by decide)]
        · rw [pm_ne (by omega)]
          funext k
          show (if a = 12 ∧ b = 28 ∧ k = c then nI w else mup M 12 26 2 (nI (p + ml tx L (ltr w) p)) a b k) = (if a = 12 ∧ b = 28 ∧ k = c then nI w else M a b k)
          by_cases r : a = 12 ∧ b = 28 ∧ k = c
          · rw [if_pos r, if_pos r]
          · rw [if_neg r, if_neg r, mup_at, if_neg (by omega)]
      have hF := c_form (t := mFm.getD w 0) (c := c) a5 a6 (frm w) 0 1000 _ _ rfl (by rw [Nat.zero_add]; rfl) (by omega) rfl (by show 0 + _ ≤ 4; omega) hC
      obtain ⟨v, M1, e5, rfl, h5⟩ := hF
      rw [← hcm] at e5 h5
      have e6 : f_X2_readForm (mFm.getD w 0) (mup (mup (mup M 12 26 2 (nI (p + ml tx L (ltr w) p))) 12 28 c (nI w)) 12 26 6 (nI 0)) = some (nI (cmdS tx L p z0).1.toNat, M1) := e5
      have e7 : Int32.ofNat w = nI w := rfl
      obtain ⟨t1, ⟨t2, t3, t4⟩, ⟨t5, t6, t7⟩, t8, t9⟩ := h5
      show wp (mix ((mup M 12 26 2 (nI (p + ml tx L (ltr w) p))) 12 26 3) 15 _) _
      rw [x3, e7]
      simp (disch := omega) only [mix_ite, nI_nat, wp_ite, mlet_eq, lit_0, lit_1, lit_2, lit_3, lit_4, lit_5, lit_6, lit_7, lit_8, lit_9, lit_10, lit_11, lit_12, lit_13, lit_14, lit_15, lit_16, lit_20, lit_23, lit_24, lit_31, lit_32, lit_39, lit_43, lit_45, lit_47, lit_48, lit_56, lit_57, lit_59, lit_60, lit_62, lit_63, lit_89, lit_92, lit_96, lit_97, lit_99, lit_100, lit_102, lit_103, lit_104, lit_110, lit_111, lit_115, lit_117, lit_194, lit_200, lit_644, lit_736, lit_999, lit_1000, lit_9999, lit_10000, lit_1000000000]
      rw [if_neg (show ¬ (nI c < nI 0 ∨ 15 ≤ c) by rw [nI_ltE (by omega) (by decide)]; omega), e6, mbnd_eq]
      have fr : ∀ a b k, ¬ (a = 12 ∧ (b = 26 ∨ b = 28 ∧ k = c ∨ b = 30 + c)) → M1 a b k = M a b k := fun a b k hab => by
        rw [t9 a b (by omega), mup_at, if_neg (by omega)]
      cases q2 : (cmdS tx L p z0).1 with
      | false =>
        rw [Bool.toNat_false, if_pos rfl, wp_some]
        exact ⟨⟨rfl, t1, t2, t5⟩, fun h => (by cases h), fr⟩
      | true =>
        rw [Bool.toNat_true, if_neg (by decide), t3, nI_add, wp_some]
        refine ⟨⟨rfl, ⟨hl60, ?_, fun i hi => ?_⟩, ?_, t5⟩, fun _ => ⟨?_, w, hw, w11, ?_, fun j hj => ?_⟩, fun a b k hab => ?_⟩
        · rw [mup_at, if_neg (by decide)]; exact t1.2.1
        · rw [mup_at, if_neg (by omega)]; exact t1.2.2 i hi
        · rw [mup_at, if_neg (by decide)]; exact t2
        · rw [mup_at, if_pos (by decide)]
        · rw [mup_at, if_neg (by omega), t9 12 28 (by omega), mup_at, if_pos (by omega)]
        · rw [mup_at, if_neg (by omega)]; exact t8 j hj
        · rw [mup_at, if_neg (by omega)]; exact fr a b k hab
    · rw [if_neg q] at e
      have e1 := w2 _ e
      rw [hp, nI_add, mlet_eq] at e1
      have hL : lit tx L (ltr w) (r0 p z0) = (false, p + ml tx L (ltr w) p, 0, z0) := by
        unfold lit
        rw [if_pos (show (r0 p z0).1 = true from rfl)]
        show (decide (ml tx L (ltr w) p = (ltr w).length), p + ml tx L (ltr w) p, 0, z0) = _
        rw [decide_eq_false q]
      exact fail _ hml (by rw [cmd_some hw, hL]; exact if_neg (fun h => (by cases h))) e1
/-! the whole text -/
def Pp (tx : Nat → Nat) (L : Nat) : Nat → Nat
  | 0 => 0
  | k + 1 => (cmdS tx L (Pp tx L k) z0).2.1 + 1
theorem Pp_s {tx : Nat → Nat} {L k : Nat} : Pp tx L (k + 1) = (cmdS tx L (Pp tx L k) z0).2.1 + 1 := Eq.trans rfl rfl
/-- well-formed, the error's place, how many commands -/
def prS (tx : Nat → Nat) (L : Nat) : Nat → Nat → Bool × Nat × Nat
  | 0, k => (false, 0, k)
  | f + 1, k => if (cmdS tx L (Pp tx L k) z0).1 = true then (if L ≤ (cmdS tx L (Pp tx L k) z0).2.1 then (true, 0, k + 1) else if isAt tx L (cmdS tx L (Pp tx L k) z0).2.1 59 = true then prS tx L f (k + 1) else (false, (cmdS tx L (Pp tx L k) z0).2.1, k)) else (false, (cmdS tx L (Pp tx L k) z0).2.1, k)
theorem prS_s {tx : Nat → Nat} {L f k : Nat} : prS tx L (f + 1) k = if (cmdS tx L (Pp tx L k) z0).1 = true then (if L ≤ (cmdS tx L (Pp tx L k) z0).2.1 then (true, 0, k + 1) else if isAt tx L (cmdS tx L (Pp tx L k) z0).2.1 59 = true then prS tx L f (k + 1) else (false, (cmdS tx L (Pp tx L k) z0).2.1, k)) else (false, (cmdS tx L (Pp tx L k) z0).2.1, k) := Eq.trans rfl rfl
def RecA (M : Mem) (tx : Nat → Nat) (L n : Nat) : Prop := ∀ i, i < n → (cmdS tx L (Pp tx L i) z0).1 = true ∧ RecC M tx L (Pp tx L i) i
def PFr (M M1 : Mem) : Prop := ∀ a b, ¬ (a = 12 ∧ (b = 26 ∨ b = 28 ∨ 30 ≤ b ∧ b < 45)) → M1 a b = M a b
theorem c_parseL {M0 : Mem} {tx : Nat → Nat} {L : Nat} : ∀ f N k M, f + k = 13 → f < N → 5 * k ≤ Pp tx L k → Pp tx L k ≤ L → Txt M tx L → M 12 26 2 = nI (Pp tx L k) → M 12 26 3 = nI k → RecA M tx L k → PFr M0 M → wp (f_X2_parse_L10 N M (fun M13 => some (M13 12 26 2, M13))) fun v M1 => Txt M1 tx L ∧ PFr M0 M1 ∧ ((prS tx L f k).1 = true → v = -nI 1 ∧ M1 12 26 3 = nI (prS tx L f k).2.2 ∧ RecA M1 tx L (prS tx L f k).2.2 ∧ 1 ≤ (prS tx L f k).2.2 ∧ 5 * (prS tx L f k).2.2 ≤ L + 1) ∧ ((prS tx L f k).1 = false → v = nI (prS tx L f k).2.1 ∧ (prS tx L f k).2.1 ≤ L) := by
  intro f
  induction f with
  | zero =>
    intro N k M h1 h2 h3 h4 ht _ _ _ _
    have := ht.1
    omega
  | succ f ih =>
    intro N k M h1 h2 h3 h4 ht hp hk hrec hfr
    obtain ⟨n, rfl⟩ : ∃ n, N = n + 1 := ⟨N - 1, by omega⟩
    have hl60 := ht.1
    obtain ⟨v, M1, e1, ⟨rfl, t1, t2, t3⟩, t4, t5⟩ := c_readCommand ht hp hk h4 (by omega)
    have hge := cmd_ge (tx := tx) (L := L) (p := Pp tx L k)
    have ep := c_peek t1 t2 t3
    have e59 := pk_at (tx := tx) (L := L) (p := (cmdS tx L (Pp tx L k) z0).2.1) (c := 59) (fun i hi => (t1.2.2 i hi).2) (by decide)
    have fr1 : PFr M0 M1 := fun a b hab => by
      rw [← hfr a b hab]
      funext j
      exact t5 a b j (by omega)
    rw [f_X2_parse_L10.eq_2, hk, lit_15, if_neg (by rw [nI_leE (by omega) (by omega)]; omega), e1, mbnd_eq, prS_s]
    cases q : (cmdS tx L (Pp tx L k) z0).1 with
    | false =>
      rw [Bool.toNat_false, if_pos (show nI 0 = 0 from rfl), if_neg (by decide), t2, wp_some]
      exact ⟨t1, fr1, fun h => (by cases h), fun _ => ⟨rfl, t3⟩⟩
    | true =>
      obtain ⟨g1, g2⟩ := t4 q
      have g3 := hge q
      have rec1 : RecA M1 tx L (k + 1) := fun i hi => by
        by_cases r : i = k
        · subst r
          exact ⟨q, g2⟩
        · obtain ⟨r1, w, r2, r3, r4, r5⟩ := hrec i (by omega)
          refine ⟨r1, w, r2, r3, ?_, fun j hj => ?_⟩
          · rw [t5 12 28 i (by omega)]; exact r4
          · rw [t5 12 (30 + i) j (by omega)]; exact r5 j hj
      rw [Bool.toNat_true, if_neg (show ¬ nI 1 = 0 by decide), if_pos rfl, ep, mbp_eq, mbp_eq]
      by_cases q2 : L ≤ (cmdS tx L (Pp tx L k) z0).2.1
      · have e2 : pk tx L (cmdS tx L (Pp tx L k) z0).2.1 = -nI 1 := if_neg (by omega)
        rw [if_pos q2, e2, if_pos (show -nI 1 = -1 from rfl), wp_some]
        refine ⟨t1, fr1, fun _ => ⟨rfl, g1, rec1, by show 1 ≤ k + 1; omega, by show 5 * (k + 1) ≤ L + 1; omega⟩, fun h => (by cases h)⟩
      · have e2 : pk tx L (cmdS tx L (Pp tx L k) z0).2.1 = nI (tx (cmdS tx L (Pp tx L k) z0).2.1) := if_pos (by omega)
        have lt := (t1.2.2 (cmdS tx L (Pp tx L k) z0).2.1 (by omega)).2
        rw [if_neg q2, if_neg (show ¬ pk tx L (cmdS tx L (Pp tx L k) z0).2.1 = -1 by rw [e2]; show ¬ nI _ = -nI 1; rw [nI_eqN (by omega) (by decide) (by decide)]; exact id)]
        by_cases q3 : isAt tx L (cmdS tx L (Pp tx L k) z0).2.1 59 = true
        · have e3 : pk tx L (cmdS tx L (Pp tx L k) z0).2.1 = nI 59 := by rw [e59]; exact q3
          rw [if_pos q3, if_pos (show pk tx L (cmdS tx L (Pp tx L k) z0).2.1 = 59 from e3), mlet_eq, t2, lit_1, nI_add]
          refine ih n (k + 1) _ (by omega) (by omega) (by rw [Pp_s]; omega) (by rw [Pp_s]; omega) ⟨hl60, ?_, fun i hi => ?_⟩ ?_ ?_ (fun i hi => ?_) (fun a b hab => ?_)
          · rw [mup_at, if_neg (by decide)]; exact t1.2.1
          · rw [mup_at, if_neg (by omega)]; exact t1.2.2 i hi
          · rw [mup_at, if_pos (by decide), Pp_s]
          · rw [mup_at, if_neg (by decide)]; exact g1
          · obtain ⟨r1, w, r2, r3, r4, r5⟩ := rec1 i hi
            refine ⟨r1, w, r2, r3, ?_, fun j hj => ?_⟩
            · rw [mup_at, if_neg (by omega)]; exact r4
            · rw [mup_at, if_neg (by omega)]; exact r5 j hj
          · rw [pm_ne (by omega)]
            exact fr1 a b hab
        · have e3 : ¬ pk tx L (cmdS tx L (Pp tx L k) z0).2.1 = nI 59 := by rw [e59]; exact q3
          rw [if_neg q3, if_neg (show ¬ pk tx L (cmdS tx L (Pp tx L k) z0).2.1 = 59 from e3), t2, wp_some]
          exact ⟨t1, fr1, fun h => (by cases h), fun _ => ⟨rfl, t3⟩⟩
theorem c_parse {M : Mem} {tx : Nat → Nat} {L : Nat} (ht : Txt M tx L) : wp (f_X2_parse M) fun v M1 => Txt M1 tx L ∧ PFr M M1 ∧ ((prS tx L 13 0).1 = true → v = -nI 1 ∧ M1 12 26 3 = nI (prS tx L 13 0).2.2 ∧ RecA M1 tx L (prS tx L 13 0).2.2 ∧ 1 ≤ (prS tx L 13 0).2.2 ∧ 5 * (prS tx L 13 0).2.2 ≤ L + 1) ∧ ((prS tx L 13 0).1 = false → v = nI (prS tx L 13 0).2.1 ∧ (prS tx L 13 0).2.1 ≤ L) := by
  obtain ⟨h1, h2, h3⟩ := ht
  unfold f_X2_parse
  generalize hN : (1000 : Nat) = N
  rw [mlet_eq, mlet_eq]
  refine c_parseL (M0 := M) 13 N 0 _ rfl (by omega) (Nat.zero_le _) (Nat.zero_le _) ⟨h1, ?_, fun i hi => ?_⟩ ?_ ?_ (fun i hi => absurd hi (Nat.not_lt_zero _)) (fun a b hab => ?_)
  · rw [mup_at, if_neg (by decide), mup_at, if_neg (by decide)]; exact h2
  · rw [mup_at, if_neg (by omega), mup_at, if_neg (by omega)]; exact h3 i hi
  · rw [mup_at, if_neg (by decide), mup_at, if_pos (by decide)]; rfl
  · rw [mup_at, if_pos (by decide)]; rfl
  · rw [pm_ne (by omega), pm_ne (by omega)]
