/-! THE EIGHT LOOKS OF A ROUND, each behind a drawn call -/
theorem log_last {α : Sp} {k w : Nat} (h : α 14 ≤ 12) : ∃ q, sLog α k w 14 = q + 1 ∧ q + 1 ≤ 12 ∧ sLog α k w (56 + 3 * q) = α 11 ∧ sLog α k w (57 + 3 * q) = k ∧ sLog α k w (58 + 3 * q) = w := by
  have h1 := logB_14 h
  have h2 : logB α 11 = α 11 := logB_ne (by decide) (by omega)
  unfold sLog
  refine ⟨logB α 14, ?_, by omega, ?_, ?_, ?_⟩
  · rw [putSp_at, if_pos rfl]
  · rw [putSp_at, if_neg (by omega), if_neg (by omega), if_neg (by omega), if_pos rfl]; exact h2
  · rw [putSp_at, if_neg (by omega), if_neg (by omega), if_pos rfl]
  · rw [putSp_at, if_neg (by omega), if_pos rfl]
theorem give_spec {α β : Sp} {ans h : Nat} (hh : h < 2147483648) (b9 : α 9 ≤ 8) (he : sGive α (nI h) = .inr (ans, β)) : ans = α 9 + 1 ∧ β 9 = α 9 + 1 ∧ β (23 + α 9) = h := by
  unfold sGive at he
  (repeat' split at he) <;> cases he
  refine ⟨rfl, by rw [up_at, if_pos rfl], by rw [up_at, if_neg (by omega), up_at, if_pos rfl, nI_nat hh]⟩
theorem back_spec {α β : Sp} {ans h H : Nat} (hi : Inv H α) (hh : h < 2147483648) (he : sBack α (nI h) = .inr (ans, β)) : ans = α 9 - 1 ∧ 1 ≤ α 9 ∧ h < α 0 ∧ β 0 = α 0 ∧ pl β h = none := by
  have bn := hi.2.2.2.2.2.1
  have b0 := hi.1.1
  have b9 := hi.1.2.2.2.2.2.2.2.2.2.1
  unfold sBack at he
  rw [idx_I hh, nI_nat hh] at he
  split at he
  · rename_i q
    have q := of_decide_eq_true q
    split at he
    · cases he
    · split at he
      · cases he
      · rename_i k e
        cases he
        obtain ⟨k1, k2⟩ := pl_lt e
        refine ⟨rfl, by omega, q, by rw [backSp_at, if_neg (by omega), if_neg (by omega), if_neg (by omega)], ?_⟩
        cases e2 : pl (backSp α k) h with
        | none => rfl
        | some j =>
          obtain ⟨j1, j2⟩ := pl_lt e2
          rw [backSp_at, if_pos rfl] at j1
          rw [backSp_at, if_neg (by omega)] at j2
          exfalso
          by_cases qk : 23 + k ≤ 23 + j ∧ 23 + j < 23 + (α 9 - 1)
          · rw [if_pos qk, show 23 + j + 1 = 23 + (j + 1) by omega] at j2
            exact bn k (j + 1) (by omega) (by omega) (k2.trans j2.symm)
          · rw [if_neg qk, if_neg (by omega)] at j2
            exact bn j k (by omega) (by omega) (j2.trans k2.symm)
  · cases he
theorem hrs_add (α : Sp) (a : Nat) : ∀ b, hrs (hrs α a) b = hrs α (a + b) := by
  intro b
  induction b with
  | zero => rfl
  | succ b ih =>
    show hourSp (hrs (hrs α a) b) = hourSp (hrs α (a + b))
    rw [ih]
theorem vis_hrs {α : Sp} {H n z : Nat} (hi : Inv H α) (hH : H < 800000) (hn : n ≤ 24) (hz : z < 8) (h0 : 0 < α 10) (hv : n ≤ vis α z) : vis (hrs α n) z = vis α z - n := by
  obtain ⟨v1, v2, v3⟩ := vis_spec hi (by omega) hz h0
  have h10 : 0 < hrs α n 10 := by rw [hrs_k hi (by omega) n (by omega)]; exact h0
  obtain ⟨w1, w2, w3⟩ := vis_spec (inv_hrs hi n (by omega)) (by omega) hz h10
  rw [hrs_add] at w2
  rcases Nat.lt_trichotomy (vis (hrs α n) z) (vis α z - n) with h | h | h
  · have := v3 (n + vis (hrs α n) z) (by omega)
    rw [this] at w2
    cases w2
  · exact h
  · have := w3 (vis α z - n) h
    rw [hrs_add, show n + (vis α z - n) = vis α z by omega, v2] at this
    cases this
section LOOKS
variable {M7 M44 : Mem} {α γ : Sp} {H kd b : Nat}
theorem k_1 (hR : RC (M44 0) γ) (hi : Inv H γ) (hb : b < 2) (hk : kd < 48) (h : b = 1 → 3 ≤ kd → kd < 6 → γ 1 = 1 ∧ γ 6 = 0 ∧ γ 7 = 0 ∧ γ 8 = 0 ∧ γ 9 = 0 ∧ ∀ h, h < γ 0 → γ (15 + h) = crv γ h) (k377_71 : Int32 → Option Int32) :
    (mlet (fun (_u : Unit) => (k377_71 (nI 1))) fun k372_69 => (if (nI b) = nI 0 then (k372_69 ()) else (if (nI kd) < (nI 3) then (k372_69 ()) else (if (nI 5) < (nI kd) then (k372_69 ()) else (mbp (f_X11_isOpen M44) fun r58 => (mlet (fun (_u : Unit) => (k377_71 (nI 0))) fun k376_68 => (if r58 = nI 0 then (mbp (f_X11_presentedCount M44) fun r60 => (if r60 = nI 0 then (mbp (f_X11_lockedHours M44) fun r62 => (if r62 = nI 0 then (mbp (f_X11_failedAttempts M44) fun r64 => (if r64 = nI 0 then (mbp (f_L_areCorrect M44) fun r66 => (if r66 = nI 0 then (k376_68 ()) else (k372_69 ()))) else (k376_68 ()))) else (k376_68 ()))) else (k376_68 ()))) else (k376_68 ())))))))) = k377_71 (nI 1) := by
  rw [mlet_eq]
  by_cases q1 : b = 0
  · rw [if_pos (by rw [q1])]
  rw [if_neg (by rw [nI_eqE (by omega) (by decide)]; exact q1)]
  by_cases q2 : kd < 3
  · rw [if_pos (by rw [nI_ltE (by omega) (by decide)]; exact q2)]
  rw [if_neg (by rw [nI_ltE (by omega) (by decide)]; exact q2)]
  by_cases q3 : 5 < kd
  · rw [if_pos (by rw [nI_ltE (by decide) (by omega)]; exact q3)]
  rw [if_neg (by rw [nI_ltE (by decide) (by omega)]; exact q3)]
  obtain ⟨h1, h6, h7, h8, h9, hc⟩ := h (by omega) (by omega) (by omega)
  rw [g_isOpen hR hi, mbp_eq, mlet_eq, h6, if_pos rfl, g_presentedCount hR, mbp_eq, h9, if_pos rfl, g_lockedHours hR, mbp_eq, h7, if_pos rfl, g_failedAttempts hR, mbp_eq, h8, if_pos rfl, v_areCorrect hR hi h1 hc, mbp_eq, if_neg (by decide)]
theorem k_2 (hR : RC (M44 0) γ) (hi : Inv H γ) (hb : b < 2) (hk : kd < 48) {h n : Nat} {r : Int32} (hn : n ≤ 8) (hg : b = 1 → 10 ≤ kd → kd < 18 → r = nI (n + 1) ∧ γ 9 = n + 1 ∧ γ (23 + n) = h) (k425_81 : Int32 → Option Int32) :
    (mlet (fun (_u : Unit) => (k425_81 (nI 1))) fun k420_79 => (if (nI b) = nI 0 then (k420_79 ()) else (if (nI kd) < (nI 10) then (k420_79 ()) else (if (nI 17) < (nI kd) then (k420_79 ()) else (mlet (fun (_u : Unit) => (k425_81 (nI 0))) fun k424_78 => (if r = ((nI n) + (nI 1)) then (mbp (f_L_presentedAt (nI n) M44) fun r76 => (if r76 = (nI h) then (k420_79 ()) else (k424_78 ()))) else (k424_78 ()))))))) = k425_81 (nI 1) := by
  rw [mlet_eq]
  by_cases q1 : b = 0
  · rw [if_pos (by rw [q1])]
  rw [if_neg (by rw [nI_eqE (by omega) (by decide)]; exact q1)]
  by_cases q2 : kd < 10
  · rw [if_pos (by rw [nI_ltE (by omega) (by decide)]; exact q2)]
  rw [if_neg (by rw [nI_ltE (by omega) (by decide)]; exact q2)]
  by_cases q3 : 17 < kd
  · rw [if_pos (by rw [nI_ltE (by decide) (by omega)]; exact q3)]
  rw [if_neg (by rw [nI_ltE (by decide) (by omega)]; exact q3)]
  obtain ⟨h1, h2, h3⟩ := hg (by omega) (by omega) (by omega)
  rw [mlet_eq, h1, nI_add, if_pos rfl, v_presentedAt hR hi (by omega), mbp_eq, if_pos (show n < γ 9 by omega), h3, if_pos rfl]
theorem k_3 (hR : RC (M44 0) γ) (hi : Inv H γ) (hb : b < 2) (hk : kd < 48) {h n : Nat} {r : Int32} (hn : n ≤ 8) (hg : b = 1 → 18 ≤ kd → kd < 20 → r = nI (n - 1) ∧ 1 ≤ n ∧ h < γ 0 ∧ pl γ h = none) (k472_92 : Int32 → Option Int32) :
    (mlet (fun (_u : Unit) => (k472_92 (nI 1))) fun k467_90 => (if (nI b) = nI 0 then (k467_90 ()) else (if (nI kd) < (nI 18) then (k467_90 ()) else (if (nI 19) < (nI kd) then (k467_90 ()) else (mlet (fun (_u : Unit) => (k472_92 (nI 0))) fun k471_89 => (if r = ((nI n) - (nI 1)) then (mbp (f_L_isPresented (nI h) M44) fun r87 => (if r87 = nI 0 then (k467_90 ()) else (k471_89 ()))) else (k471_89 ()))))))) = k472_92 (nI 1) := by
  rw [mlet_eq]
  by_cases q1 : b = 0
  · rw [if_pos (by rw [q1])]
  rw [if_neg (by rw [nI_eqE (by omega) (by decide)]; exact q1)]
  by_cases q2 : kd < 18
  · rw [if_pos (by rw [nI_ltE (by omega) (by decide)]; exact q2)]
  rw [if_neg (by rw [nI_ltE (by omega) (by decide)]; exact q2)]
  by_cases q3 : 19 < kd
  · rw [if_pos (by rw [nI_ltE (by decide) (by omega)]; exact q3)]
  rw [if_neg (by rw [nI_ltE (by decide) (by omega)]; exact q3)]
  obtain ⟨h1, h2, h3, h4⟩ := hg (by omega) (by omega) (by omega)
  rw [mlet_eq, h1, nI_subE (by omega), if_pos rfl, v_isPresented hR hi h3, mbp_eq, h4, show (none : Option Nat).isSome.toNat = 0 from rfl, if_pos rfl]
def tryB (kd : Nat) : Nat := if 20 ≤ kd ∧ kd < 25 then 1 else 0
theorem k_T (hk : kd < 48) (k494_98 : Int32 → Option Int32) : (mlet (fun (_u : Unit) => (k494_98 (nI 0))) fun k493_96 => (if (nI kd) ≤ (nI 19) then (k493_96 ()) else (if (nI 25) ≤ (nI kd) then (k493_96 ()) else (k494_98 (nI 1))))) = k494_98 (nI (tryB kd)) := by
  unfold tryB
  rw [mlet_eq]
  by_cases q1 : kd ≤ 19
  · rw [if_pos (by rw [nI_leE (by omega) (by decide)]; exact q1), if_neg (by omega)]
  rw [if_neg (by rw [nI_leE (by omega) (by decide)]; exact q1)]
  by_cases q2 : 25 ≤ kd
  · rw [if_pos (by rw [nI_leE (by decide) (by omega)]; exact q2), if_neg (by omega)]
  · rw [if_neg (by rw [nI_leE (by decide) (by omega)]; exact q2), if_pos (by omega)]
theorem k_4 (hi : Inv H α) (hb : b < 2) {t : Nat} (ht : t < 2) (hg : t = 1 → (b = 1 ↔ α 1 = 1 ∧ α 6 = 0 ∧ α 7 = 0 ∧ α 5 ≤ α 9 ∧ inZ α 0 = true)) (k545_111 : Int32 → Option Int32) :
    (mlet (fun (_u : Unit) => (k545_111 (nI 1))) fun k540_109 => (if (nI t) = nI 0 then (k540_109 ()) else (mlet (fun (x106 : Int32) => (if (nI b) = x106 then (k540_109 ()) else (k545_111 (nI 0)))) fun k537_107 => (mlet (fun (_u : Unit) => (k537_107 (nI 0))) fun k536_105 => (if (thV α) ≤ nI 0 then (k536_105 ()) else (if (nI (α 6)) = nI 0 then (if (nI (α 7)) = nI 0 then (if (nI (α 9)) < (thV α) then (k536_105 ()) else (if (nI (inZ α 0).toNat) = nI 0 then (k536_105 ()) else (k537_107 (nI 1)))) else (k536_105 ())) else (k536_105 ()))))))) = k545_111 (nI 1) := by
  obtain ⟨⟨b0, b1, b2, b3, b4, b5, b6, b7, b8, b9, b10, b11, b14⟩, i1, i2, -⟩ := hi
  rw [mlet_eq]
  by_cases q1 : t = 0
  · rw [if_pos (by rw [q1])]
  rw [if_neg (by rw [nI_eqE (by omega) (by decide)]; exact q1)]
  have hg := hg (by omega)
  refine mlet_k (v := nI b) (fun k => ?_) (if_pos rfl)
  rw [mlet_eq]
  have e0 : b ≠ 1 → k (nI 0) = k (nI b) := fun h => by rw [show b = 0 by omega]
  unfold thV
  by_cases p1 : α 1 = 1
  · have := i2 p1
    rw [if_pos p1, if_neg (by rw [nI_leE (by omega) (by decide)]; omega)]
    by_cases p6 : α 6 = 0
    · rw [if_pos (by rw [p6])]
      by_cases p7 : α 7 = 0
      · rw [if_pos (by rw [p7])]
        by_cases p9 : α 9 < α 5
        · rw [if_pos (by rw [nI_ltE (by omega) (by omega)]; exact p9)]
          exact e0 (fun h => by have := (hg.mp h).2.2.2.1; omega)
        · rw [if_neg (by rw [nI_ltE (by omega) (by omega)]; exact p9)]
          cases pz : inZ α 0 with
          | false =>
            rw [show false.toNat = 0 from rfl, if_pos rfl]
            exact e0 (fun h => by have := (hg.mp h).2.2.2.2; rw [pz] at this; cases this)
          | true =>
            rw [if_neg (by decide), hg.mpr ⟨p1, p6, p7, by omega, pz⟩]
      · rw [if_neg (by rw [nI_eqE (by omega) (by decide)]; exact p7)]
        exact e0 (fun h => p7 (hg.mp h).2.2.1)
    · rw [if_neg (by rw [nI_eqE (by omega) (by decide)]; exact p6)]
      exact e0 (fun h => p6 (hg.mp h).2.1)
  · rw [if_neg p1, if_pos (by decide)]
    exact e0 (fun h => p1 (hg.mp h).1)
theorem k_5 (hR : RC (M44 0) γ) (hi : Inv H γ) (hia : Inv H α) (hH : H < 900000) (hb : b < 2) {t ans : Nat} (ht : t < 2) {sec r agr told : Int32} (hg : t = 1 → b = 1 → r = nI ans ∧ sOpen α = .inr (ans, γ) ∧ sec = nI (α 2) ∧ agr = nI (one (α 5) (sh α) (ky α) (α 9)).toNat ∧ told = nI (thr (α 5) (sh α) (ky α) 0)) (h12 : α 12 ≤ H) (k743_159 : Int32 → Option Int32) :
    (mlet (fun (_u : Unit) => (k743_159 (nI 1))) fun k738_157 => (if (nI t) = nI 0 then (k738_157 ()) else (if (nI b) = nI 0 then (k738_157 ()) else (mlet (fun (x116 : Int32) => (mlet (fun (x121 : Int32) => (mlet (fun (_u : Unit) => (k743_159 (nI 0))) fun k742_156 => (if x116 = x121 then (mlet (fun (_u : Unit) => (mbp (f_X11_logCount M44) fun r150 => (mbp (f_L_logDetail (r150 - (nI 1)) M44) fun r151 => (if r151 = (nI (α 9)) then (mbp (f_X11_logCount M44) fun r153 => (mbp (f_L_logHour (r153 - (nI 1)) M44) fun r154 => (if r154 = (nI (α 11)) then (k738_157 ()) else (k742_156 ())))) else (k742_156 ()))))) fun k708_149 => (if r = (nI 1) then (mbp (f_X11_isOpen M44) fun r140 => (if r140 = nI 0 then (k742_156 ()) else (mbp (f_X11_openingCount M44) fun r142 => (if r142 = ((nI (α 12)) + (nI 1)) then (mbp (f_X11_failedAttempts M44) fun r144 => (if r144 = nI 0 then (mbp (f_X11_logCount M44) fun r146 => (mbp (f_L_logKind (r146 - (nI 1)) M44) fun r147 => (if r147 = (nI 111) then (k708_149 ()) else (k742_156 ())))) else (k742_156 ()))) else (k742_156 ()))))) else (mbp (f_X11_isOpen M44) fun r125 => (if r125 = nI 0 then (mbp (f_X11_openingCount M44) fun r127 => (if r127 = (nI (α 12)) then (mlet (fun (_u : Unit) => (mbp (f_X11_logCount M44) fun r137 => (mbp (f_L_logKind (r137 - (nI 1)) M44) fun r138 => (if r138 = (nI 102) then (k708_149 ()) else (k742_156 ()))))) fun k693_136 => (if (nI (α 8)) = (nI 2) then (mbp (f_X11_lockedHours M44) fun r132 => (if r132 = (nI 6) then (mbp (f_X11_failedAttempts M44) fun r134 => (if r134 = nI 0 then (k693_136 ()) else (k742_156 ()))) else (k742_156 ()))) else (mbp (f_X11_failedAttempts M44) fun r130 => (if r130 = ((nI (α 8)) + (nI 1)) then (k693_136 ()) else (k742_156 ()))))) else (k742_156 ()))) else (k742_156 ()))))) else (k742_156 ())))) fun k589_122 => (mlet (fun (_u : Unit) => (k589_122 (nI 0))) fun k588_120 => (if agr = (nI 1) then (if told = sec then (k589_122 (nI 1)) else (k588_120 ())) else (k588_120 ()))))) fun k571_117 => (if r = (nI 1) then (k571_117 (nI 1)) else (k571_117 (nI 0))))))) = k743_159 (nI 1) := by
  have hia' := hia
  obtain ⟨⟨b0, b1, b2, b3, b4, b5, b6, b7, b8, b9, b10, b11, b14⟩, -⟩ := hia'
  rw [mlet_eq]
  by_cases q1 : t = 0
  · rw [if_pos (by rw [q1])]
  rw [if_neg (by rw [nI_eqE (by omega) (by decide)]; exact q1)]
  by_cases q2 : b = 0
  · rw [if_pos (by rw [q2])]
  rw [if_neg (by rw [nI_eqE (by omega) (by decide)]; exact q2)]
  obtain ⟨rfl, he, rfl, rfl, rfl⟩ := hg (by omega) (by omega)
  obtain ⟨-, hc⟩ := open_spec hia he
  have hl := thr_lt (T := α 5) (s := sh α) (t := ky α) (x := 0)
  have hto : ∀ k : Int32 → Option Int32, (mlet (fun (_u : Unit) => (k (nI 0))) fun k588_120 => (if (nI (one (α 5) (sh α) (ky α) (α 9)).toNat) = (nI 1) then (if (nI (thr (α 5) (sh α) (ky α) 0)) = (nI (α 2)) then (k (nI 1)) else (k588_120 ())) else (k588_120 ()))) = k (nI (okA α).toNat) := fun k => by
    rw [mlet_eq]
    unfold okA
    cases one (α 5) (sh α) (ky α) (α 9) with
    | false => rw [if_neg (by decide)]; rfl
    | true =>
      rw [if_pos (by decide)]
      by_cases q : thr (α 5) (sh α) (ky α) 0 = α 2
      · rw [if_pos (by rw [q]), decide_eq_true q]; rfl
      · rw [if_neg (by rw [nI_eqE (by omega) (by omega)]; exact q), decide_eq_false q]; rfl
  rcases hc with ⟨c1, c2, c3⟩ | ⟨c1, c2, c3⟩
  · subst c2
    obtain ⟨q, l1, l2, l3, l4, l5⟩ := log_last (α := openSp α) (k := 111) (w := α 9) (by rw [openSp_at, if_neg (by decide), if_neg (by decide), if_neg (by decide)]; exact b14)
    rw [← c3] at l1 l3 l4 l5
    have e6 : γ 6 = 1 := by rw [c3, sLog_ne (by rw [openSp_at, if_neg (by decide), if_neg (by decide), if_neg (by decide)]; exact b14) (by decide) (by omega), openSp_at, if_pos rfl]
    have e8 : γ 8 = 0 := by rw [c3, sLog_ne (by rw [openSp_at, if_neg (by decide), if_neg (by decide), if_neg (by decide)]; exact b14) (by decide) (by omega), openSp_at, if_neg (by decide), if_pos rfl]
    have e12 : γ 12 = α 12 + 1 := by rw [c3, sLog_ne (by rw [openSp_at, if_neg (by decide), if_neg (by decide), if_neg (by decide)]; exact b14) (by decide) (by omega), openSp_at, if_neg (by decide), if_neg (by decide), if_pos rfl]
    have e11 : openSp α 11 = α 11 := by rw [openSp_at, if_neg (by decide), if_neg (by decide), if_neg (by decide)]
    rw [e11] at l3
    refine mlet_k (v := nI 1) (fun k => if_pos rfl) ?_
    refine mlet_k (fun k => hto k) ?_
    rw [c1, show true.toNat = 1 from rfl, mlet_eq, if_pos rfl]
    refine mlet_k (v := ()) (fun k => ?_) ?_
    · rw [if_pos rfl, g_isOpen hR hi, mbp_eq, e6, if_neg (by decide), g_openingCount hR, mbp_eq, e12, nI_add, if_pos rfl, g_failedAttempts hR, mbp_eq, e8, if_pos rfl, g_logCount hR, mbp_eq, l1, nI_subE (by omega), Nat.add_sub_cancel, v_logKind hR hi (by omega), mbp_eq, l4, if_pos rfl]
    rw [g_logCount hR, mbp_eq, l1, nI_subE (by omega), Nat.add_sub_cancel, v_logDetail hR hi (by omega), mbp_eq, l5, if_pos rfl, mbp_eq, nI_subE (by omega), Nat.add_sub_cancel, v_logHour hR hi (by omega), mbp_eq, l3, if_pos rfl]
  · subst c2
    obtain ⟨q, l1, l2, l3, l4, l5⟩ := log_last (α := failSp α) (k := 102) (w := α 9) (by rw [failSp_ne (by omega)]; exact b14)
    rw [← c3] at l1 l3 l4 l5
    have sne : ∀ j, j < 14 → γ j = failSp α j := fun j hj => by rw [c3, sLog_ne (by rw [failSp_ne (by omega)]; exact b14) (by omega) (by omega)]
    have e6 : γ 6 = α 6 := by rw [sne 6 (by decide), failSp_at, if_neg (by decide), if_neg (by decide)]
    have e60 : α 6 = 0 := (open_spec hia he).1.2.1
    have e12 : γ 12 = α 12 := by rw [sne 12 (by decide), failSp_at, if_neg (by decide), if_neg (by decide)]
    have e8 : γ 8 = if α 8 = 2 then 0 else α 8 + 1 := by rw [sne 8 (by decide), failSp_at, if_pos rfl]
    have e7 : γ 7 = if α 8 = 2 then 6 else α 7 := by rw [sne 7 (by decide), failSp_at, if_neg (by decide), if_pos rfl]
    rw [failSp_ne (by omega)] at l3
    refine mlet_k (v := nI 0) (fun k => if_neg (by decide)) ?_
    refine mlet_k (fun k => hto k) ?_
    rw [c1, show false.toNat = 0 from rfl, mlet_eq, if_pos rfl]
    refine mlet_k (v := ()) (fun k => ?_) ?_
    · rw [if_neg (by decide), g_isOpen hR hi, mbp_eq, e6, e60, if_pos rfl, g_openingCount hR, mbp_eq, e12, if_pos rfl]
      refine mlet_k (v := ()) (fun k => ?_) ?_
      · by_cases p8 : α 8 = 2
        · rw [if_pos (by rw [p8]), g_lockedHours hR, mbp_eq, e7, if_pos p8, if_pos rfl, g_failedAttempts hR, mbp_eq, e8, if_pos p8, if_pos rfl]
        · rw [if_neg (by rw [nI_eqE (by omega) (by decide)]; exact p8), g_failedAttempts hR, mbp_eq, e8, if_neg p8, nI_add, if_pos rfl]
      rw [g_logCount hR, mbp_eq, l1, nI_subE (by omega), Nat.add_sub_cancel, v_logKind hR hi (by omega), mbp_eq, l4, if_pos rfl]
    rw [g_logCount hR, mbp_eq, l1, nI_subE (by omega), Nat.add_sub_cancel, v_logDetail hR hi (by omega), mbp_eq, l5, if_pos rfl, mbp_eq, nI_subE (by omega), Nat.add_sub_cancel, v_logHour hR hi (by omega), mbp_eq, l3, if_pos rfl]
theorem k_6 (hR : RC (M44 0) γ) (hi : Inv H γ) (hia : Inv H α) (hb : b < 2) (hk : kd < 48) {ans : Nat} {r : Int32} (hg : b = 1 → kd = 25 → r = nI ans ∧ sClose α = .inr (ans, γ)) (k799_173 : Int32 → Option Int32) :
    (mlet (fun (_u : Unit) => (k799_173 (nI 1))) fun k794_171 => (if (nI b) = nI 0 then (k794_171 ()) else (if (nI kd) = (nI 25) then (mlet (fun (_u : Unit) => (k799_173 (nI 0))) fun k798_170 => (if (nI (α 6)) = nI 0 then (k798_170 ()) else (if r = (nI (α 9)) then (mbp (f_X11_presentedCount M44) fun r165 => (if r165 = nI 0 then (mbp (f_X11_logCount M44) fun r167 => (mbp (f_L_logKind (r167 - (nI 1)) M44) fun r168 => (if r168 = (nI 99) then (k794_171 ()) else (k798_170 ())))) else (k798_170 ()))) else (k798_170 ())))) else (k794_171 ())))) = k799_173 (nI 1) := by
  have b14 := hia.1.2.2.2.2.2.2.2.2.2.2.2.2
  rw [mlet_eq]
  by_cases q1 : b = 0
  · rw [if_pos (by rw [q1])]
  rw [if_neg (by rw [nI_eqE (by omega) (by decide)]; exact q1)]
  by_cases q2 : kd = 25
  · obtain ⟨rfl, he⟩ := hg (by omega) q2
    obtain ⟨c1, c2, c3, c4⟩ := close_spec hia he
    subst c3
    have h14 : closeSp α 14 ≤ 12 := by rw [closeSp_at, if_neg (by decide), if_neg (by decide), if_neg (by decide)]; exact b14
    obtain ⟨q, l1, l2, l3, l4, l5⟩ := log_last (k := 99) (w := 0) h14
    rw [← c4] at l1 l3 l4 l5
    have e9 : γ 9 = 0 := by rw [c4, sLog_ne h14 (by decide) (by omega), closeSp_at, if_neg (by decide), if_pos rfl]
    rw [if_pos (by rw [q2]), mlet_eq, c2, if_neg (by decide), if_pos rfl, g_presentedCount hR, mbp_eq, e9, if_pos rfl, g_logCount hR, mbp_eq, l1, nI_subE (by omega), Nat.add_sub_cancel, v_logKind hR hi (by omega), mbp_eq, l4, if_pos rfl]
  · rw [if_neg (by rw [nI_eqE (by omega) (by decide)]; exact q2)]
def passB (b kd : Nat) : Nat := if b = 1 ∧ 38 ≤ kd ∧ kd < 46 then 1 else 0
theorem k_P (hb : b < 2) (hk : kd < 48) (k826_180 : Int32 → Option Int32) : (mlet (fun (_u : Unit) => (k826_180 (nI 0))) fun k825_178 => (if (nI b) = nI 0 then (k825_178 ()) else (if (nI kd) ≤ (nI 37) then (k825_178 ()) else (if (nI 46) ≤ (nI kd) then (k825_178 ()) else (k826_180 (nI 1)))))) = k826_180 (nI (passB b kd)) := by
  unfold passB
  rw [mlet_eq]
  by_cases q0 : b = 0
  · rw [if_pos (by rw [q0]), if_neg (by omega)]
  rw [if_neg (by rw [nI_eqE (by omega) (by decide)]; exact q0)]
  by_cases q1 : kd ≤ 37
  · rw [if_pos (by rw [nI_leE (by omega) (by decide)]; exact q1), if_neg (by omega)]
  rw [if_neg (by rw [nI_leE (by omega) (by decide)]; exact q1)]
  by_cases q2 : 46 ≤ kd
  · rw [if_pos (by rw [nI_leE (by decide) (by omega)]; exact q2), if_neg (by omega)]
  · rw [if_neg (by rw [nI_leE (by decide) (by omega)]; exact q2), if_pos (by omega)]
theorem k_7 (hR : RC (M44 0) γ) (hia : Inv H α) (hH : H < 700000) {p ans hr z : Nat} (hp : p < 2) (hz : z < 8) (hr1 : 1 ≤ hr ∧ hr ≤ 8) {r : Int32} {Y : Nat → Int64} (hg : p = 1 → r = nI ans ∧ sHours α (nI hr) = .inr (ans, γ)) : ∃ M1, Kp M44 M1 ∧ ∀ k908_199 : Int32 → MemY → Option Int32,
    (mlet (fun (M195 : MemY) => (k908_199 (nI 1) M195)) fun k903_196 => (if (nI p) = nI 0 then (k903_196 (M44, Y)) else (mlet (fun (M193 : MemY) => (k908_199 (nI 0) M193)) fun k907_194 => (if r = (nI (hrsN α hr)) then (mbp (f_X11_alarmCount M44) fun r183 => (if r183 = ((nI (α 13)) + r) then (mbp (f_X11_hour M44) fun r185 => (if r185 = ((nI (α 11)) + (nI hr)) then (mbp (f_X11_lockedHours M44) fun r187 => (if r187 = (if (nI 0) < ((nI (α 7)) - (nI hr)) then ((nI (α 7)) - (nI hr)) else (nI 0)) then (if (if α 10 = 0 then -nI 75 else nI (vis α z)) < (nI hr) then (k903_196 (M44, Y)) else (mbnd (f_L_hoursUntilVisit (nI z) M44) fun r190 M191 => (if r190 = ((if α 10 = 0 then -nI 75 else nI (vis α z)) - (nI hr)) then (k903_196 (M191, Y)) else (k907_194 (M191, Y))))) else (k907_194 (M44, Y)))) else (k907_194 (M44, Y)))) else (k907_194 (M44, Y)))) else (k907_194 (M44, Y)))))) = k908_199 (nI 1) (M1, Y) := by
  have hia' := hia
  obtain ⟨⟨b0, b1, b2, b3, b4, b5, b6, b7, b8, b9, b10, b11, b14⟩, -⟩ := hia'
  by_cases q1 : p = 0
  · exact ⟨M44, Kp.rf, fun k => by rw [mlet_eq, if_pos (by rw [q1])]⟩
  obtain ⟨rfl, he⟩ := hg (by omega)
  have hs : ans = hrsN α hr ∧ γ = hrs α hr := by
    unfold sHours at he
    rw [rng1_I (by omega), nI_nat (by omega)] at he
    split at he
    · cases he
      exact ⟨rfl, rfl⟩
    · cases he
  obtain ⟨rfl, rfl⟩ := hs
  have hib := inv_hrs hia hr (by omega)
  have e13 := hrs_13 hia hr (by omega)
  have e11 := hrs_11 hia hr (by omega)
  have e7 := hrs_7 hia hr (by omega)
  have e10 := hrs_k hia (j := 10) (by omega) hr (by omega)
  obtain ⟨M1, f1, k1⟩ := v_hoursUntilVisit hR hib (by omega) hz
  rw [e10] at f1
  have e7' : (if (nI 0) < (nI (α 7) - nI hr) then (nI (α 7) - nI hr) else (nI 0)) = nI (α 7 - hr) := by
    have : ∀ a : Fin 7, ∀ h : Fin 9, (if (nI 0) < (nI a.val - nI h.val) then (nI a.val - nI h.val) else (nI 0)) = nI (a.val - h.val) := by decide +kernel
    exact this ⟨α 7, by omega⟩ ⟨hr, by omega⟩
  by_cases q2 : α 10 = 0
  · refine ⟨M44, Kp.rf, fun k => ?_⟩
    rw [mlet_eq, if_neg (by rw [nI_eqE (by omega) (by decide)]; exact q1), mlet_eq, if_pos rfl, g_alarmCount hR, mbp_eq, e13, nI_add, if_pos rfl, g_hour hR, mbp_eq, e11, nI_add, if_pos rfl, g_lockedHours hR, mbp_eq, e7, e7', if_pos rfl, if_pos q2, if_pos ?_]
    have : ∀ q : Fin 9, -nI 75 < nI q.val := by decide
    exact this ⟨hr, by omega⟩
  · have hv := (vis_spec hia (by omega) hz (by omega)).1
    by_cases q3 : vis α z < hr
    · refine ⟨M44, Kp.rf, fun k => ?_⟩
      rw [mlet_eq, if_neg (by rw [nI_eqE (by omega) (by decide)]; exact q1), mlet_eq, if_pos rfl, g_alarmCount hR, mbp_eq, e13, nI_add, if_pos rfl, g_hour hR, mbp_eq, e11, nI_add, if_pos rfl, g_lockedHours hR, mbp_eq, e7, e7', if_pos rfl, if_neg q2, if_pos (by rw [nI_ltE (by omega) (by omega)]; exact q3)]
    · refine ⟨M1, k1, fun k => ?_⟩
      rw [mlet_eq, if_neg (by rw [nI_eqE (by omega) (by decide)]; exact q1), mlet_eq, if_pos rfl, g_alarmCount hR, mbp_eq, e13, nI_add, if_pos rfl, g_hour hR, mbp_eq, e11, nI_add, if_pos rfl, g_lockedHours hR, mbp_eq, e7, e7', if_pos rfl, if_neg q2, if_neg (by rw [nI_ltE (by omega) (by omega)]; exact q3), f1, if_neg q2, mbnd_eq, vis_hrs hia (by omega) (by omega) hz (by omega) (by omega), nI_subE (by omega), if_pos rfl]
theorem k_8 {N : MemY} (hR : RC (N.1 0) γ) (hk : kd < 48) {p : Nat} (hp : p < 2) (hg : p = 0 → kd ≤ 45 → γ 13 = α 13 ∧ γ 11 = α 11) (k948_210 : Int32 → Option Int32) :
    (mlet (fun (_u : Unit) => (k948_210 (nI 1))) fun k943_208 => (if (nI p) = nI 0 then (if (nI 45) < (nI kd) then (k943_208 ()) else (mbp (f_X11_alarmCount N.1) fun r203 => (mlet (fun (_u : Unit) => (k948_210 (nI 0))) fun k947_207 => (if r203 = (nI (α 13)) then (mbp (f_X11_hour N.1) fun r205 => (if r205 = (nI (α 11)) then (k943_208 ()) else (k947_207 ()))) else (k947_207 ()))))) else (k943_208 ()))) = k948_210 (nI 1) := by
  rw [mlet_eq]
  by_cases q1 : p = 0
  · rw [if_pos (by rw [q1])]
    by_cases q2 : 45 < kd
    · rw [if_pos (by rw [nI_ltE (by decide) (by omega)]; exact q2)]
    · obtain ⟨h1, h2⟩ := hg q1 (by omega)
      rw [if_neg (by rw [nI_ltE (by decide) (by omega)]; exact q2), g_alarmCount hR, mbp_eq, mlet_eq, h1, if_pos rfl, g_hour hR, mbp_eq, h2, if_pos rfl]
  · rw [if_neg (by rw [nI_eqE (by omega) (by decide)]; exact q1)]
end LOOKS
