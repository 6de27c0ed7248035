def wAt (tx : Nat → Nat) (L i : Nat) : Nat := (wsel tx L (Pp tx L i)).getD 0
def nAt (tx : Nat → Nat) (L i : Nat) : Nat → Nat := (cmdS tx L (Pp tx L i) z0).2.2.2
def cR (tx : Nat → Nat) (L i : Nat) (α : Sp) : Nat ⊕ Sp := exR (wAt tx L i) (sCmd α (wAt tx L i) (nAt tx L i))
/-- d commands from i on: which one fails and why, or the state -/
def exS (tx : Nat → Nat) (L : Nat) : Nat → Nat → Sp → (Nat × Nat) ⊕ Sp
  | 0, _, α => .inr α
  | d + 1, i, α => match cR tx L i α with
    | .inl cz => .inl (i, cz)
    | .inr β => exS tx L d (i + 1) β
theorem exS_f {tx : Nat → Nat} {L d i cz : Nat} {α : Sp} (h : cR tx L i α = .inl cz) : exS tx L (d + 1) i α = .inl (i, cz) := by
  show (match cR tx L i α with | Sum.inl cz => (Sum.inl (i, cz) : (Nat × Nat) ⊕ Sp) | Sum.inr β => exS tx L d (i + 1) β) = _
  rw [h]
theorem exS_t {tx : Nat → Nat} {L d i : Nat} {α β : Sp} (h : cR tx L i α = .inr β) : exS tx L (d + 1) i α = exS tx L d (i + 1) β := by
  show (match cR tx L i α with | Sum.inl cz => (Sum.inl (i, cz) : (Nat × Nat) ⊕ Sp) | Sum.inr β => exS tx L d (i + 1) β) = _
  rw [h]
theorem cR_inv {tx : Nat → Nat} {L i H : Nat} {α β : Sp} (hi : Inv H α) (hH : H < 900000) (h : cR tx L i α = .inr β) : Inv (H + 24) β := by
  unfold cR at h
  cases e : sCmd α (wAt tx L i) (nAt tx L i) with
  | inl x => rw [e] at h; cases h
  | inr x =>
    obtain ⟨ans, γ⟩ := x
    rw [e] at h
    by_cases q : wAt tx L i = 5 ∧ ans = 0
    · have : exR (wAt tx L i) (.inr (ans, γ)) = .inl 12 := if_pos q
      rw [this] at h; cases h
    · have : exR (wAt tx L i) (.inr (ans, γ)) = .inr γ := if_neg q
      rw [this] at h
      cases h
      exact inv_cmd hi hH e
theorem cR_cz {tx : Nat → Nat} {L i cz : Nat} {α : Sp} (h : cR tx L i α = .inl cz) : 1 ≤ cz ∧ cz ≤ 12 := by
  unfold cR at h
  have kk := kOK_cmd α (wAt tx L i) (nAt tx L i)
  cases e : sCmd α (wAt tx L i) (nAt tx L i) with
  | inl x =>
    obtain ⟨k, d⟩ := x
    rw [e] at h
    have := kk k d e
    have h2 : (if k < 20 then k else 12) = cz := by
      have h3 : exR (wAt tx L i) (.inl (k, d)) = .inl (if k < 20 then k else 12) := rfl
      rw [h3] at h
      cases h
      rfl
    split at h2 <;> omega
  | inr x =>
    obtain ⟨ans, γ⟩ := x
    rw [e] at h
    by_cases q : wAt tx L i = 5 ∧ ans = 0
    · have : exR (wAt tx L i) (.inr (ans, γ)) = .inl 12 := if_pos q
      rw [this] at h; cases h; decide
    · have : exR (wAt tx L i) (.inr (ans, γ)) = .inr γ := if_neg q
      rw [this] at h; cases h
/-- the class carries them out -/
theorem c_exec {tx : Nat → Nat} {L cnt nx : Nat} {α0 : Sp} (hx : nx < 9) (hc15 : cnt ≤ 12) (b1 : α0 1 ≤ 1) (b6 : α0 6 ≤ 1) (kk : Mem → Option ((Nat ⊕ Int32) × Mem)) : ∀ d N i H α M, i + d = cnt → d < N → H + 24 * d < 900000 → RecA M tx L cnt → M 12 26 3 = nI cnt → M 12 17 1 = nI nx → RC (M (1 + nx)) α0 → RC (M 0) α → Inv H α → (∀ β, exS tx L d i α = .inr β → Inv (H + 24 * d) β ∧ ∃ M1, f_X11_runCommands_L49 N (nI i) M kk = kk M1 ∧ RC (M1 0) β ∧ ∀ a, a ≠ 0 → M1 a = M a) ∧ (∀ j cz, exS tx L d i α = .inl (j, cz) → j < 12 ∧ 1 ≤ cz ∧ cz ≤ 12 ∧ ∃ M1, f_X11_runCommands_L49 N (nI i) M kk = some (.inl 3, M1) ∧ RC (M1 0) α0 ∧ (M1 12 16 8 = nI 11 ∧ M1 12 16 9 = nI j ∧ M1 12 16 10 = nI cz ∧ ∀ k, k ≠ 8 → k ≠ 9 → k ≠ 10 → M1 12 16 k = M 12 16 k) ∧ ∀ a b, a ≠ 0 → ¬ (a = 12 ∧ b = 16) → M1 a b = M a b) := by
  intro d
  induction d with
  | zero =>
    intro N i H α M h1 h2 hH hrec h26 h17 hR0 hR hi
    obtain ⟨n, rfl⟩ : ∃ n, N = n + 1 := ⟨N - 1, by omega⟩
    rw [f_X11_runCommands_L49.eq_2, h26, if_pos (by rw [nI_leE (by omega) (by omega)]; omega)]
    refine ⟨fun β e => ?_, fun j cz e => (by cases e)⟩
    cases e
    exact ⟨hi, M, rfl, hR, fun _ _ => rfl⟩
  | succ d ih =>
    intro N i H α M h1 h2 hH hrec h26 h17 hR0 hR hi
    obtain ⟨n, rfl⟩ : ∃ n, N = n + 1 := ⟨N - 1, by omega⟩
    obtain ⟨ok, w, hw, w11, h28, h30⟩ := hrec i (by omega)
    have ew : wAt tx L i = w := by unfold wAt; rw [hw]; rfl
    have hcmd := c_cmd (i := i) (by omega) hw ok h30 hR hi (by omega)
    have ecR : cR tx L i α = exR w (sCmd α w (cmdS tx L (Pp tx L i) z0).2.2.2) := by unfold cR nAt; rw [ew]
    rw [← ecR] at hcmd
    have e1 : ∀ K : Nat → Option ((Nat ⊕ Int32) × Mem), mwd (nI w) K = K w := fun K => by
      unfold mwd
      rw [if_neg (by rw [nI_nat (by omega)]; show ¬ (nI w = -nI 1 ∨ 11 ≤ w); rw [nI_eqN (by omega) (by decide) (by decide)]; exact fun h => h.elim id (fun h => by omega)), nI_nat (by omega)]
    rw [f_X11_runCommands_L49.eq_2, h26, if_neg (by rw [nI_leE (by omega) (by omega)]; omega), nI_mix (by omega) (by omega), nI_nat (by omega), h28, e1, nI_mix (by omega) (by omega)]
    cases hc : cR tx L i α with
    | inr β =>
      rw [hc] at hcmd
      obtain ⟨r, M1, e2, rfl, g1, g2⟩ := hcmd
      rw [exS_t hc, e2, mbnd_eq, if_pos (show nI 0 = 0 from rfl), mlet_eq, lit_1, nI_add]
      have hrec1 : RecA M1 tx L cnt := fun k hk => by
        obtain ⟨a1, w', a2, a3, a4, a5⟩ := hrec k hk
        exact ⟨a1, w', a2, a3, by rw [g2 12 (by decide)]; exact a4, fun j hj => by rw [g2 12 (by decide)]; exact a5 j hj⟩
      have := ih n (i + 1) (H + 24) β M1 (by omega) (by omega) (by omega) hrec1 (by rw [g2 12 (by decide)]; exact h26) (by rw [g2 12 (by decide)]; exact h17) (by rw [g2 (1 + nx) (by omega)]; exact hR0) g1 (cR_inv hi (by omega) hc)
      refine ⟨fun γ e => ?_, fun j cz e => ?_⟩
      · obtain ⟨i1, M2, k1, k2, k3⟩ := this.1 γ e
        refine ⟨i1.mono (by omega), M2, k1, k2, fun a h => by rw [k3 a h, g2 a h]⟩
      · obtain ⟨j1, c1, c2, M2, k1, k2, ⟨k3, k4, k5, k6⟩, k7⟩ := this.2 j cz e
        exact ⟨j1, c1, c2, M2, k1, k2, ⟨k3, k4, k5, fun k x1 x2 x3 => by rw [k6 k x1 x2 x3, g2 12 (by decide)]⟩, fun a b x1 x2 => by rw [k7 a b x1 x2, g2 a x1]⟩
    | inl cz =>
      rw [hc] at hcmd
      obtain ⟨r, M1, e2, g1, g2, g3⟩ := hcmd
      rw [exS_f hc, e2, mbnd_eq, if_neg (show ¬ r = 0 from g1)]
      refine ⟨fun β e => (by cases e), fun j cz' e => ?_⟩
      cases e
      obtain ⟨z1, z2⟩ := cR_cz hc
      refine ⟨by omega, z1, z2, ?_⟩
      have hprep : f_X4_prepared M1 = some (1 + nx) := by
        unfold f_X4_prepared
        rw [g3 12 (by decide), h17, nI_mix (by omega) (by omega), nI_nat (by omega)]
      obtain ⟨⟨⟩, M2, e3, q1, -, q3⟩ := c_copy (g := 0) (g1 := 1 + nx) (M := M1) (α := α0) (by omega) (by rw [g3 (1 + nx) (by omega)]; exact hR0) b1 b6
      rw [hprep, mbp_eq, e3, mbnd_eq]
      have hkr : ∀ y : Int32, f_X11_keepRefusal 11 (nI i) y M2 = some ((), mup (mup (mup M2 12 16 8 (nI 11)) 12 16 9 (nI i)) 12 16 10 y) := fun _ => rfl
      have e4 : (mlet (fun (x21 : Int32) => (mbnd (f_X11_keepRefusal (11 : Int32) (nI i) x21 M2) fun r23 M24 => (some (((Sum.inl 3) : Nat ⊕ Int32), M24)))) fun k118_22 => (if r ≤ 0 then (k118_22 (12 : Int32)) else (k118_22 r))) = some (.inl 3, mup (mup (mup M2 12 16 8 (nI 11)) 12 16 9 (nI i)) 12 16 10 (nI cz)) := by
        rw [mlet_eq]
        by_cases q : r ≤ nI 0
        · rw [if_pos q] at g2
          rw [if_pos (show r ≤ 0 from q)]
          show mbnd (f_X11_keepRefusal 11 (nI i) 12 M2) (fun r23 M24 => some ((Sum.inl 3 : Nat ⊕ Int32), M24)) = _
          rw [hkr, mbnd_eq, ← g2]
          rfl
        · rw [if_neg q] at g2
          rw [if_neg (show ¬ r ≤ 0 from q)]
          show mbnd (f_X11_keepRefusal 11 (nI i) r M2) (fun r23 M24 => some ((Sum.inl 3 : Nat ⊕ Int32), M24)) = _
          rw [hkr, mbnd_eq, g2]
      refine ⟨_, e4, ?_, ⟨?_, ?_, ?_, fun k x1 x2 x3 => ?_⟩, fun a b x1 x2 => ?_⟩
      · rw [pm_g (by decide), pm_g (by decide), pm_g (by decide)]; exact q1
      · rw [mup_at, if_neg (by decide), mup_at, if_neg (by decide), mup_at, if_pos (by decide)]
      · rw [mup_at, if_neg (by decide), mup_at, if_pos (by decide)]
      · rw [mup_at, if_pos (by decide)]
      · rw [mup_at, if_neg (by omega), mup_at, if_neg (by omega), mup_at, if_neg (by omega), q3 12 (by decide), g3 12 (by decide)]
      · rw [pm_ne x2, pm_ne x2, pm_ne x2, q3 a x1, g3 a x1]
/-- the model carries them out -/
theorem m_backL {M : Mem} {N : Nat} (hN : 1000 = N) (kk : Mem → Option (Int32 × Mem)) : f_X12_runCommands_L127 N (nI 0) M kk = kk (fil M 12 48 0 92 (M 12 49)) := by
  have key := mloop (F := fun n x s kk => f_X12_runCommands_L127 n x s kk) (c := 92) (fun x => fil M 12 48 0 x (M 12 49)) (fun m x kk hx => by
    rw [f_X12_runCommands_L127.eq_2]
    have e : (fil M 12 48 0 x (M 12 49)) 12 49 x = M 12 49 x := by rw [fil_ne (by decide)]
    simp (disch := omega) only [lit_0, lit_1, lit_2, lit_3, lit_4, lit_5, lit_6, lit_7, lit_8, lit_9, lit_10, lit_11, lit_12, lit_13, lit_14, lit_15, lit_16, lit_20, lit_23, lit_24, lit_31, lit_32, lit_39, lit_43, lit_45, lit_47, lit_48, lit_56, lit_57, lit_59, lit_60, lit_62, lit_63, lit_89, lit_92, lit_96, lit_97, lit_99, lit_100, lit_102, lit_103, lit_104, lit_110, lit_111, lit_115, lit_117, lit_194, lit_200, lit_644, lit_736, lit_999, lit_1000, lit_9999, lit_10000, lit_1000000000, ↓wp_mlet, ↓wp_mbp, ↓wp_ite, ↓wp_mix, ↓wp_mdiv, ↓wp_mnz, ↓wp_some, ↓wp_mbnd, ↓mlet_eq, ↓mbp_eq, ↓mbnd_eq, ↓mix_ite, ↓mdiv_ite, ↓mnz_ite, nI_add, nI_mul, nI_nat, nI_ltE, nI_leE, nI_eqE, nI_eqN, nI_Neq, nI_Nlt, nI_Nle, nI_ltN, nI_leN, ↓reduceIte, ↓Nat.reduceEqDiff, and_f, nt_e, nt_t, nl_t, nl_f, ne_t, ne_f, and_self, or_self, or_true, true_or, or_false, false_or, if_true, if_false, and_true, true_and, and_false, false_and, not_true, not_false_iff, e]
    rw [fil_s (by omega) rfl]) (fun m kk => by
    rw [f_X12_runCommands_L127.eq_2]
    simp (disch := omega) only [lit_0, lit_1, lit_2, lit_3, lit_4, lit_5, lit_6, lit_7, lit_8, lit_9, lit_10, lit_11, lit_12, lit_13, lit_14, lit_15, lit_16, lit_20, lit_23, lit_24, lit_31, lit_32, lit_39, lit_43, lit_45, lit_47, lit_48, lit_56, lit_57, lit_59, lit_60, lit_62, lit_63, lit_89, lit_92, lit_96, lit_97, lit_99, lit_100, lit_102, lit_103, lit_104, lit_110, lit_111, lit_115, lit_117, lit_194, lit_200, lit_644, lit_736, lit_999, lit_1000, lit_9999, lit_10000, lit_1000000000, ↓wp_mlet, ↓wp_mbp, ↓wp_ite, ↓wp_mix, ↓wp_mdiv, ↓wp_mnz, ↓wp_some, ↓wp_mbnd, ↓mlet_eq, ↓mbp_eq, ↓mbnd_eq, ↓mix_ite, ↓mdiv_ite, ↓mnz_ite, nI_add, nI_mul, nI_nat, nI_ltE, nI_leE, nI_eqE, nI_eqN, nI_Neq, nI_Nlt, nI_Nle, nI_ltN, nI_leN, ↓reduceIte, ↓Nat.reduceEqDiff, and_f, nt_e, nt_t, nl_t, nl_f, ne_t, ne_f, and_self, or_self, or_true, true_or, or_false, false_or, if_true, if_false, and_true, true_and, and_false, false_and, not_true, not_false_iff])
  have := key 92 N 0 kk (by omega) (by omega)
  rw [fil_0] at this
  exact this
def EFr (M M1 : Mem) : Prop := (∀ k, k ≠ 0 → k ≠ 15 → k ≠ 16 → k ≠ 17 → k ≠ 18 → M1 12 47 k = M 12 47 k) ∧ ∀ a b, ¬ (a = 12 ∧ (b = 47 ∨ b = 48 ∨ b = 56)) → M1 a b = M a b
theorem m_exec {tx : Nat → Nat} {L cnt : Nat} {α0 : Sp} (hc15 : cnt ≤ 12) (kk : Mem → Option (Int32 × Mem)) : ∀ d N i H α M, i + d = cnt → d < N → H + 24 * d < 900000 → (∀ k, k < cnt → (cmdS tx L (Pp tx L k) z0).1 = true) → RecMA M tx L cnt → M 12 47 21 = nI cnt → (∀ j, j < 92 → M 12 49 j = enc α0 j) → M 12 48 = enc α → Inv H α → (∀ β, exS tx L d i α = .inr β → ∃ M1, f_X12_runCommands_L104 N (nI i) M kk = kk M1 ∧ M1 12 48 = enc β ∧ (∀ k, k ≠ 15 → M1 12 47 k = M 12 47 k) ∧ ∀ a b, ¬ (a = 12 ∧ (b = 47 ∨ b = 48 ∨ b = 56)) → M1 a b = M a b) ∧ (∀ j cz, exS tx L d i α = .inl (j, cz) → ∃ r M1, f_X12_runCommands_L104 N (nI i) M kk = some (r, M1) ∧ (∃ β, M1 12 48 = enc (cutSp α0 β)) ∧ (M1 12 47 16 = nI 11 ∧ M1 12 47 17 = nI j ∧ M1 12 47 18 = nI cz ∧ M1 12 47 0 = nI 2) ∧ EFr M M1) := by
  intro d
  induction d with
  | zero =>
    intro N i H α M h1 h2 hH hoks hrec h21 h49 hS hi
    obtain ⟨n, rfl⟩ : ∃ n, N = n + 1 := ⟨N - 1, by omega⟩
    rw [f_X12_runCommands_L104.eq_2, h21, if_pos (by rw [nI_leE (by omega) (by omega)]; omega)]
    refine ⟨fun β e => ?_, fun j cz e => (by cases e)⟩
    cases e
    exact ⟨M, rfl, hS, fun _ _ => rfl, fun _ _ _ => rfl⟩
  | succ d ih =>
    intro N i H α M h1 h2 hH hoks hrec h21 h49 hS hi
    obtain ⟨n, rfl⟩ : ∃ n, N = n + 1 := ⟨N - 1, by omega⟩
    obtain ⟨w, hw, w11, h54, h55⟩ := hrec i (by omega)
    have ok := hoks i (by omega)
    have ew : wAt tx L i = w := by unfold wAt; rw [hw]; rfl
    have hcmd := m_cmd (i := i) (by omega) hw ok h54 h55 hS hi (by omega)
    have ecR : cR tx L i α = exR w (sCmd α w (cmdS tx L (Pp tx L i) z0).2.2.2) := by unfold cR nAt; rw [ew]
    rw [← ecR] at hcmd
    rw [f_X12_runCommands_L104.eq_2, h21, if_neg (by rw [nI_leE (by omega) (by omega)]; omega)]
    cases hc : cR tx L i α with
    | inr β =>
      rw [hc] at hcmd
      obtain ⟨r, M1, e2, rfl, g1, g2, g3⟩ := hcmd
      rw [exS_t hc, e2, mbnd_eq, if_pos (show nI 0 = 0 from rfl), mlet_eq, lit_1, nI_add]
      have hrec1 : RecMA M1 tx L cnt := fun k hk => by
        obtain ⟨w', a2, a3, a4, a5⟩ := hrec k hk
        exact ⟨w', a2, a3, by rw [g3 12 54 (by decide)]; exact a4, fun j hj => by rw [g3 12 54 (by decide)]; exact a5 j hj⟩
      have := ih n (i + 1) (H + 24) β M1 (by omega) (by omega) (by omega) hoks hrec1 (by rw [g2 21 (by decide)]; exact h21) (fun j hj => by rw [g3 12 49 (by decide)]; exact h49 j hj) g1 (cR_inv hi (by omega) hc)
      refine ⟨fun γ e => ?_, fun j cz e => ?_⟩
      · obtain ⟨M2, k1, k2, k3, k4⟩ := this.1 γ e
        exact ⟨M2, k1, k2, fun k hk => by rw [k3 k hk, g2 k hk], fun a b hab => by rw [k4 a b hab, g3 a b hab]⟩
      · obtain ⟨r, M2, k1, k2, k3, k4, k5⟩ := this.2 j cz e
        exact ⟨r, M2, k1, k2, k3, fun k x0 x1 x2 x3 x4 => by rw [k4 k x0 x1 x2 x3 x4, g2 k x1], fun a b hab => by rw [k5 a b hab, g3 a b hab]⟩
    | inl cz =>
      rw [hc] at hcmd
      obtain ⟨r, M1, e2, g1, g2, ⟨β, g3⟩, g4, g5⟩ := hcmd
      rw [exS_f hc, e2, mbnd_eq, if_neg (show ¬ r = 0 from g1)]
      refine ⟨fun β e => (by cases e), fun j cz' e => ?_⟩
      cases e
      have eb := fun kk => m_backL (M := M1) rfl kk
      have eb' : ∀ kk, f_X12_runCommands_L127 1000 0 M1 kk = kk (fil M1 12 48 0 92 (M1 12 49)) := eb
      rw [eb']
      have hf : ∀ j, j < 92 → M1 12 49 j = enc α0 j := fun j hj => by rw [g5 12 49 (by decide)]; exact h49 j hj
      have e48 := enc_cut (lo := 0) g3 hf
      have f48 : ∀ a b, ¬ (a = 12 ∧ b = 48) → (fil M1 12 48 0 92 (M1 12 49)) a b = M1 a b := fun a b h => fil_ne h
      generalize fil M1 12 48 0 92 (M1 12 49) = M2 at *
      have er : f_X12_refused 11 (nI i) M2 = some (-nI 11, mup (mup (mup M2 12 47 16 (nI 11)) 12 47 17 (nI i)) 12 47 18 (nI 0)) := m_refused M2 11 i
      have e4 : (mbnd (f_X12_refused (11 : Int32) (nI i) M2) fun r32 M33 => (mlet (fun (x35 : Int32) => (mlet (mup M33 12 47 18 x35) fun M37 => (mbnd (f_X12_fails (2 : Int32) M37) fun r38 M39 => (some (r38, M39))))) fun k171_36 => (if 0 ≤ r then (k171_36 (12 : Int32)) else (k171_36 (-r))))) = some (nI 0, mup (mup (mup (mup (mup M2 12 47 16 (nI 11)) 12 47 17 (nI i)) 12 47 18 (nI 0)) 12 47 18 (nI cz)) 12 47 0 (nI 2)) := by
        rw [er, mbnd_eq, mlet_eq]
        by_cases q : nI 0 ≤ r
        · rw [if_pos q] at g2
          rw [if_pos (show 0 ≤ r from q), ← g2]
          rfl
        · rw [if_neg q] at g2
          rw [if_neg (show ¬ 0 ≤ r from q), ← g2]
          rfl
      refine ⟨_, _, e4, ⟨β, ?_⟩, ⟨?_, ?_, ?_, ?_⟩, fun k x0 x1 x2 x3 x4 => ?_, fun a b hab => ?_⟩
      · rw [pm_ne (by decide), pm_ne (by decide), pm_ne (by decide), pm_ne (by decide), pm_ne (by decide)]; exact e48
      · rw [mup_at, if_neg (by decide), mup_at, if_neg (by decide), mup_at, if_neg (by decide), mup_at, if_neg (by decide), mup_at, if_pos (by decide)]
      · rw [mup_at, if_neg (by decide), mup_at, if_neg (by decide), mup_at, if_neg (by decide), mup_at, if_pos (by decide)]
      · rw [mup_at, if_neg (by decide), mup_at, if_pos (by decide)]
      · rw [mup_at, if_pos (by decide)]
      · rw [mup_at, if_neg (by omega), mup_at, if_neg (by omega), mup_at, if_neg (by omega), mup_at, if_neg (by omega), mup_at, if_neg (by omega), f48 12 47 (by decide), g4 k x1 x2 x3 x4]
      · rw [pm_ne (by omega), pm_ne (by omega), pm_ne (by omega), pm_ne (by omega), pm_ne (by omega), f48 a b (by omega), g5 a b hab]
