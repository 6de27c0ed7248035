/-! ONE ROUND OF THE LAW; ALL ROUNDS -/
theorem lit_37 : (37 : Int32) = nI 37 := Eq.trans rfl rfl
theorem lg_self (x : Int64) : lg_cmp x x = nI 0 := by
  unfold lg_cmp
  rw [if_neg (show ¬ x > x from Int64.lt_irrefl), if_pos rfl]
  rfl
theorem and11 : nI 1 &&& nI 1 = nI 1 := by decide
def KK (made : Nat) : Nat := if made < 8 then made else 8
/-- at the head of a round: n rounds are done, made changes; S holds the states, Y their sums -/
def LR (n made : Nat) (M : Mem) (Y : Nat → Int64) (sec : Int32) (S : Nat → Sp) (nx : Nat) : Prop :=
  made ≤ n ∧ RZ M (S made) (fun k => S (made - KK made + k)) (KK made) nx ∧ (∀ j, j ≤ made → Inv (312 * n) (S j)) ∧ In2 (312 * n) (S made) ∧ DG (S made) ∧ (S made 1 = 1 → sec = nI (S made 2)) ∧ ∀ j, j ≤ made → Y j = sumV (S j)
theorem RZ_cg {M : Mem} {α : Sp} {αh αh' : Nat → Sp} {K K' nx : Nat} (h : RZ M α αh K nx) (hK : K = K') (e : ∀ k, k < K → αh k = αh' k) : RZ M α αh' K' nx := by
  subst hK
  obtain ⟨h1, ⟨x1, x2, x3, x4, x5⟩, h3⟩ := h
  exact ⟨h1, ⟨x1, x2, x3, x4, fun k hk => by rw [← e k hk]; exact x5 k hk⟩, h3⟩
theorem ring_push {S : Nat → Sp} {γ : Sp} {made k : Nat} (hk : k < KK (made + 1)) : pushH (fun k => S (made - KK made + k)) (KK made) (S made) k = (if made + 1 - KK (made + 1) + k = made + 1 then γ else S (made + 1 - KK (made + 1) + k)) := by
  unfold pushH
  by_cases q8 : made < 8
  · have h1 : KK made = made := if_pos q8
    have h2 : KK (made + 1) = made + 1 := by unfold KK; split <;> omega
    rw [h2] at hk
    rw [h1, h2, if_neg (show ¬ made = 8 by omega), if_neg (show ¬ made + 1 - (made + 1) + k = made + 1 by omega), show made + 1 - (made + 1) + k = k by omega]
    by_cases qk : k = made
    · rw [if_pos qk, qk]
    · rw [if_neg qk]
      show S (made - made + k) = S k
      rw [Nat.sub_self, Nat.zero_add]
  · have h1 : KK made = 8 := if_neg q8
    have h2 : KK (made + 1) = 8 := if_neg (by omega)
    rw [h2] at hk
    rw [h1, h2, if_pos rfl, if_neg (show ¬ made + 1 - 8 + k = made + 1 by omega)]
    by_cases qk : k = 7
    · rw [if_pos qk, show made + 1 - 8 + k = made by omega]
    · rw [if_neg qk]
      show S (made - 8 + (k + 1)) = _
      rw [show made - 8 + (k + 1) = made + 1 - 8 + k by omega]
section ROUND
variable {xl : Nat} {xs : Nat → Int32}
theorem v_kind (hxl : xl < 2147483648) {n : Nat} (hn : n < 54) (M : Mem) : ∃ kd, kd < 48 ∧ ∀ k102_17 : Int32 → Option Int32, (if (nI 5) ≤ (nI n) then (if (nI n) = (nI 5) then (k102_17 (nI 4)) else (if (nI 8) ≤ (nI n) then (if (nI 12) ≤ (nI n) then (mbp (f_L_pick xl xs (nI (5 * n)) (nI 48) M) fun r15 => (k102_17 r15)) else (k102_17 (nI 10))) else (k102_17 (nI 26)))) else (k102_17 (nI 0))) = k102_17 (nI kd) := by
  obtain ⟨p, lp, ep⟩ := v_pick (xs := xs) hxl (a := 5 * n) (c := 48) (by omega) (by decide) (by decide)
  by_cases q1 : 5 ≤ n
  · by_cases q2 : n = 5
    · exact ⟨4, by decide, fun k => by rw [if_pos (by rw [nI_leE (by decide) (by omega)]; exact q1), if_pos (by rw [q2])]⟩
    · by_cases q3 : 8 ≤ n
      · by_cases q4 : 12 ≤ n
        · exact ⟨p, lp, fun k => by rw [if_pos (by rw [nI_leE (by decide) (by omega)]; exact q1), if_neg (by rw [nI_eqE (by omega) (by decide)]; exact q2), if_pos (by rw [nI_leE (by decide) (by omega)]; exact q3), if_pos (by rw [nI_leE (by decide) (by omega)]; exact q4), ep, mbp_eq]⟩
        · exact ⟨10, by decide, fun k => by rw [if_pos (by rw [nI_leE (by decide) (by omega)]; exact q1), if_neg (by rw [nI_eqE (by omega) (by decide)]; exact q2), if_pos (by rw [nI_leE (by decide) (by omega)]; exact q3), if_neg (by rw [nI_leE (by decide) (by omega)]; exact q4)]⟩
      · exact ⟨26, by decide, fun k => by rw [if_pos (by rw [nI_leE (by decide) (by omega)]; exact q1), if_neg (by rw [nI_eqE (by omega) (by decide)]; exact q2), if_neg (by rw [nI_leE (by decide) (by omega)]; exact q3)]⟩
  · exact ⟨0, by decide, fun k => by rw [if_neg (by rw [nI_leE (by decide) (by omega)]; exact q1)]⟩
theorem v_more {n z : Nat} (hn : n < 54) (hz : z ≤ 8) : ∃ ad, ad ≤ 1 ∧ (z = 0 → ad = 1) ∧ ∀ k137_23 : Int32 → Option Int32, (mlet (fun (_u : Unit) => (k137_23 (nI 1))) fun k132_21 => (if (mrem (nI n) (nI 13)) = (nI 12) then (k132_21 ()) else (if (nI z) = nI 0 then (k132_21 ()) else (k137_23 (nI 0))))) = k137_23 (nI ad) := by
  by_cases q1 : n % 13 = 12
  · exact ⟨1, by decide, fun _ => rfl, fun k => by rw [mlet_eq, nI_rem (by omega) (by decide), if_pos (by rw [q1])]⟩
  · by_cases q2 : z = 0
    · exact ⟨1, by decide, fun _ => rfl, fun k => by rw [mlet_eq, nI_rem (by omega) (by decide), if_neg (by rw [nI_eqE (by omega) (by decide)]; exact q1), if_pos (by rw [q2])]⟩
    · exact ⟨0, by decide, fun h => absurd h q2, fun k => by rw [mlet_eq, nI_rem (by omega) (by decide), if_neg (by rw [nI_eqE (by omega) (by decide)]; exact q1), if_neg (by rw [nI_eqE (by omega) (by decide)]; exact q2)]⟩
theorem v_al {n : Nat} (hn : n < 54) : ∃ al, al < 2 ∧ ∀ k978_216 : Int32 → Option Int32, (if (mrem (nI n) (nI 4)) = (nI 3) then (k978_216 (nI 1)) else (k978_216 (nI 0))) = k978_216 (nI al) := by
  by_cases q : n % 4 = 3
  · exact ⟨1, by decide, fun k => by rw [nI_rem (by omega) (by decide), if_pos (by rw [q])]⟩
  · exact ⟨0, by decide, fun k => by rw [nI_rem (by omega) (by decide), if_neg (by rw [nI_eqE (by omega) (by decide)]; exact q)]⟩
/-- what is behind a drawn call, whether it is done or refused -/
theorem v_pack {kd hd hr x H K nx : Nat} {α : Sp} {αh : Nat → Sp} {r : Int32} {M44 : Mem} (hi : Inv H α) (h2 : In2 H α) (hg : DG α) (h : DR kd hd hr x H α αh K nx r M44) :
    ∃ b γ ans, b < 2 ∧ (∀ k279_47 : Int32 → Option Int32, (if r ≤ (-nI 70) then (k279_47 (nI 0)) else (k279_47 (nI 1))) = k279_47 (nI b)) ∧ (b = 1 → r = nI ans ∧ dOK kd hd hr x α γ ans ∧ RZ M44 γ (pushH αh K α) (minK K) ((nx + 1) % 9)) ∧ (b = 0 → γ = α ∧ (20 ≤ kd ∧ kd < 25 → ∃ z, sOpen α = .inl z) ∧ RZ M44 γ αh K nx) ∧ Inv (H + 312) γ ∧ In2 (H + 312) γ ∧ DG γ ∧ RC (M44 0) γ := by
  rcases h with ⟨ans, β, h1, h2', h3, h4, h5, h6, h7⟩ | ⟨h1, ⟨c, c1, c2, c3⟩, h3⟩
  · exact ⟨1, β, ans, by decide, fun k => by rw [if_neg (by rw [h2', nI_leN (by omega) (by decide) (by decide)]; trivial)], fun _ => ⟨h2', h3, h7⟩, fun q => absurd q (by decide), h4, h5, h6, h7.1⟩
  · refine ⟨0, α, 0, by decide, fun k => ?_, fun q => absurd q (by decide), fun _ => ⟨rfl, h1, h3⟩, hi.mono (by omega), h2.mono (by omega), hg, h3.1⟩
    have : ∀ c : Fin 9, (-nI (71 + c.val)) ≤ -nI 70 := by decide
    have q := this ⟨c - 71, by omega⟩
    rw [show 71 + (c - 71) = c by omega] at q
    rw [c3, if_pos q]
theorem v_sec {kd x b a : Nat} {α γ : Sp} {sec : Int32} {M44 : Mem} (hkd : kd < 48) (hb : b < 2) (hx : x < 1000) (hp : f_L_pick xl xs (nI a + nI 4) (nI 1000) M44 = some (nI x)) (hs : α 1 = 1 → sec = nI (α 2)) (h1 : b = 1 → (3 ≤ kd ∧ kd < 6 → γ 2 = x % 97) ∧ (¬ (3 ≤ kd ∧ kd < 6) → ∀ j, 1 ≤ j → j ≤ 5 → γ j = α j)) (h0 : b = 0 → γ = α) :
    ∃ sec', (γ 1 = 1 → sec' = nI (γ 2)) ∧ (¬ (3 ≤ kd ∧ kd < 6) → sec' = sec) ∧ ∀ k318_54 : Int32 → Option Int32, (mlet (fun (_u : Unit) => (k318_54 sec)) fun k316_52 => (if (nI b) = nI 0 then (k316_52 ()) else (if (nI kd) ≤ (nI 2) then (k316_52 ()) else (if (nI 6) ≤ (nI kd) then (k316_52 ()) else (mbp (f_L_pick xl xs ((nI a) + (nI 4)) (nI 1000) M44) fun r51 => (k318_54 (mrem r51 (nI 97)))))))) = k318_54 sec' := by
  by_cases q0 : b = 0
  · refine ⟨sec, by rw [h0 q0]; exact hs, fun _ => rfl, fun k => by rw [mlet_eq, if_pos (by rw [q0])]⟩
  obtain ⟨g1, g2⟩ := h1 (by omega)
  by_cases q1 : 3 ≤ kd ∧ kd < 6
  · refine ⟨nI (x % 97), fun _ => by rw [g1 q1], fun q => absurd q1 q, fun k => ?_⟩
    rw [mlet_eq, if_neg (by rw [nI_eqE (by omega) (by decide)]; exact q0), if_neg (by rw [nI_leE (by omega) (by decide)]; omega), if_neg (by rw [nI_leE (by decide) (by omega)]; omega), hp, mbp_eq, nI_rem (by omega) (by decide)]
  · have e := g2 q1
    refine ⟨sec, by rw [e 1 (by decide) (by decide), e 2 (by decide) (by decide)]; exact hs, fun _ => rfl, fun k => ?_⟩
    rw [mlet_eq, if_neg (by rw [nI_eqE (by omega) (by decide)]; exact q0)]
    by_cases q2 : kd ≤ 2
    · rw [if_pos (by rw [nI_leE (by omega) (by decide)]; exact q2)]
    · rw [if_neg (by rw [nI_leE (by omega) (by decide)]; exact q2), if_pos (by rw [nI_leE (by decide) (by omega)]; omega)]
theorem v_round (hxl : xl < 2147483648) {n made nx m : Nat} {M : Mem} {Y : Nat → Int64} {sec : Int32} {S : Nat → Sp} (hn : n < 54) (h : LR n made M Y sec S nx) (kk : Int32 → MemY → Option Int32) :
    ∃ made' M' Y' sec' S' nx', f_L_law_L31 xl xs (m + 1) (nI made) (nI (5 * n)) sec (nI n) (M, Y) kk = f_L_law_L31 xl xs m (nI made') (nI (5 * n + 5)) sec' (nI (n + 1)) (M', Y') kk ∧ LR (n + 1) made' M' Y' sec' S' nx' := by
  obtain ⟨hmn, hz, hSi, h2, hd, hs, hY⟩ := h
  obtain ⟨α, hα⟩ : ∃ α, α = S made := ⟨_, rfl⟩
  rw [← hα] at hz h2 hd hs
  have hi : Inv (312 * n) α := by rw [hα]; exact hSi made (Nat.le_refl _)
  have hi' := hi
  obtain ⟨⟨b0, b1, b2, b3, b4, b5, b6, b7, b8, b9, b10, b11, b14⟩, i1, i2, -⟩ := hi'
  have hR := hz.1
  obtain ⟨kd, hkd, ek⟩ := v_kind (xs := xs) hxl hn M
  obtain ⟨ad, had, had0, ea⟩ := v_more (z := α 0) hn b0
  obtain ⟨hh, lh, eh⟩ := v_pick (xs := xs) hxl (a := 5 * n + 1) (c := α 0 + ad) (by omega) (by omega) (by omega)
  obtain ⟨p2, l2, e2⟩ := v_pick (xs := xs) hxl (a := 5 * n + 2) (c := 8) (by omega) (by decide) (by decide)
  obtain ⟨z, lz, ez⟩ := v_pick (xs := xs) hxl (a := 5 * n + 3) (c := 8) (by omega) (by decide) (by decide)
  obtain ⟨x, lx, ex⟩ := v_pick (xs := xs) hxl (a := 5 * n + 4) (c := 1000) (by omega) (by decide) (by decide)
  obtain ⟨p6, l6, e6⟩ := v_pick (xs := xs) hxl (a := 5 * n + 5 + 1) (c := 97) (by omega) (by decide) (by decide)
  obtain ⟨M35, ea1, k1⟩ := v_alarmsIn hR hi (by omega) (h := 1 + p2) (by omega)
  obtain ⟨M38, ea2, k2⟩ := v_hoursUntilVisit (k1.R hR) hi (by omega) lz
  have hz38 := (hz.keep k1).keep k2
  have hR38 := hz38.1
  obtain ⟨r, M44, ed, hdr⟩ := v_does (h := hh) (hours := 1 + p2) hxl hz38 hi h2 hd (by omega) (k := 5 * n) (by omega) hkd (by omega) (by omega) lx (ex ·)
  obtain ⟨b, γ, ans, hb, eb, hb1, hb0, hig, h2g, hdg, hRg⟩ := v_pack hi h2 hd hdr
  have hp4 : f_L_pick xl xs (nI (5 * n) + nI 4) (nI 1000) M44 = some (nI x) := by rw [nI_add]; exact ex M44
  obtain ⟨sec', hsec, hsec0, es⟩ := v_sec (xl := xl) (xs := xs) hkd hb lx hp4 hs (fun q => ⟨fun q2 => ((hb1 q).2.1.1 q2).2.1, (hb1 q).2.1.2.2.2.2.2.2.2⟩) (fun q => (hb0 q).1)
  obtain ⟨M1, kp1, e7⟩ := k_7 (M44 := M44) (Y := Y) (r := r) (ans := ans) (hr := 1 + p2) hRg hi (by omega) (p := passB b kd) (by unfold passB; split <;> decide) lz (by omega) (fun q => by
    unfold passB at q
    split at q
    · rename_i q2
      exact ⟨(hb1 q2.1).1, (hb1 q2.1).2.1.2.2.2.2.2.1 q2.2⟩
    · cases q)
  obtain ⟨al, hal, eal⟩ := v_al hn
  obtain ⟨M2, ew, kp2⟩ := v_isWhole (kp1.R hRg) hig h2g hdg (by omega) hsec (xl := xl) (xs := xs) (k := nI (5 * n + 5)) l6 (by rw [nI_add]; exact e6 M1) hal
  have hR2 := kp2.R (kp1.R hRg)
  obtain ⟨agr, eagr, hagr⟩ : ∃ agr, f_L_doAgree M = some agr ∧ (en α → agr = nI (one (α 5) (sh α) (ky α) (α 9)).toNat) := by
    by_cases q : en α
    · exact ⟨_, (v_doAgree hR hi).1 q, fun _ => rfl⟩
    · exact ⟨_, (v_doAgree hR hi).2 q, fun q2 => absurd q2 q⟩
  obtain ⟨told, etold, htold⟩ : ∃ told, f_L_toldSecret M = some told ∧ (en α → told = nI (thr (α 5) (sh α) (ky α) 0)) := by
    by_cases q : en α
    · exact ⟨_, (v_toldSecret hR hi).1 q, fun _ => rfl⟩
    · exact ⟨_, (v_toldSecret hR hi).2 q, fun q2 => absurd q2 q⟩
  have hc1 : b = 1 → 3 ≤ kd → kd < 6 → γ 1 = 1 ∧ γ 6 = 0 ∧ γ 7 = 0 ∧ γ 8 = 0 ∧ γ 9 = 0 ∧ ∀ h, h < γ 0 → γ (15 + h) = crv γ h := fun q q1 q2 => by
    obtain ⟨f1, f2, f3, f4, f5, f6, f7⟩ := (hb1 q).2.1.1 ⟨q1, q2⟩
    exact ⟨f1, f3, f4, f5, f6, f7⟩
  have hc2 : b = 1 → 10 ≤ kd → kd < 18 → r = nI (α 9 + 1) ∧ γ 9 = α 9 + 1 ∧ γ (23 + α 9) = hh := fun q q1 q2 => by
    obtain ⟨f1, f2, f3⟩ := give_spec (by omega) (by omega) ((hb1 q).2.1.2.1 ⟨q1, q2⟩)
    exact ⟨by rw [(hb1 q).1, f1], f2, f3⟩
  have hc3 : b = 1 → 18 ≤ kd → kd < 20 → r = nI (α 9 - 1) ∧ 1 ≤ α 9 ∧ hh < γ 0 ∧ pl γ hh = none := fun q q1 q2 => by
    obtain ⟨f1, f2, f3, f4, f5⟩ := back_spec hi (by omega) ((hb1 q).2.1.2.2.1 ⟨q1, q2⟩)
    exact ⟨by rw [(hb1 q).1, f1], f2, by omega, f5⟩
  have hc4 : tryB kd = 1 → (b = 1 ↔ α 1 = 1 ∧ α 6 = 0 ∧ α 7 = 0 ∧ α 5 ≤ α 9 ∧ inZ α 0 = true) := fun q => by
    have qk : 20 ≤ kd ∧ kd < 25 := by
      unfold tryB at q
      split at q
      · assumption
      · cases q
    refine ⟨fun q1 => (open_spec hi ((hb1 q1).2.1.2.2.2.1 qk)).1, fun ⟨f1, f2, f3, f4, f5⟩ => ?_⟩
    rcases (show b = 0 ∨ b = 1 by omega) with q0 | q0
    · obtain ⟨y, ey⟩ := (hb0 q0).2.1 qk
      obtain ⟨y2, ey2⟩ := open_do hi f1 f2 f3 f4 f5
      rw [ey] at ey2
      cases ey2
    · exact q0
  have hc5 : tryB kd = 1 → b = 1 → r = nI ans ∧ sOpen α = .inr (ans, γ) ∧ sec' = nI (α 2) ∧ agr = nI (one (α 5) (sh α) (ky α) (α 9)).toNat ∧ told = nI (thr (α 5) (sh α) (ky α) 0) := fun q q1 => by
    have qk : 20 ≤ kd ∧ kd < 25 := by
      unfold tryB at q
      split at q
      · assumption
      · cases q
    have ho := (hb1 q1).2.1.2.2.2.1 qk
    have hf := (open_spec hi ho).1
    have hen : en α := ⟨hf.1, hf.2.2.2.1⟩
    exact ⟨(hb1 q1).1, ho, by rw [hsec0 (by omega)]; exact hs hf.1, hagr hen, htold hen⟩
  have hc6 : b = 1 → kd = 25 → r = nI ans ∧ sClose α = .inr (ans, γ) := fun q q1 => ⟨(hb1 q).1, (hb1 q).2.1.2.2.2.2.1 q1⟩
  have hc8 : passB b kd = 0 → kd ≤ 45 → γ 13 = α 13 ∧ γ 11 = α 11 := fun q q1 => by
    rcases (show b = 0 ∨ b = 1 by omega) with q0 | q0
    · rw [(hb0 q0).1]; exact ⟨rfl, rfl⟩
    · have : kd < 38 := by
        unfold passB at q
        split at q
        · cases q
        · omega
      obtain ⟨f1, f2⟩ := (hb1 q0).2.1.2.2.2.2.2.2.1 this
      exact ⟨f2, f1⟩
  have ht2 : tryB kd < 2 := by unfold tryB; split <;> decide
  have hp2 : passB b kd < 2 := by unfold passB; split <;> decide
  have chain : f_L_law_L31 xl xs (m + 1) (nI made) (nI (5 * n)) sec (nI n) (M, Y) kk = f_L_law_L31 xl xs m (nI (made + b)) (nI (5 * n + 5)) sec' (nI (n + 1)) (M2, if b = 0 then Y else updL Y (made + 1) (sumV γ)) kk := by
    rw [f_L_law_L31.eq_2]
    simp only [lit_0, lit_1, lit_2, lit_3, lit_4, lit_5, lit_6, lit_7, lit_8, lit_9, lit_10, lit_11, lit_12, lit_13, lit_14, lit_15, lit_16, lit_20, lit_23, lit_24, lit_31, lit_32, lit_39, lit_43, lit_45, lit_47, lit_48, lit_56, lit_57, lit_59, lit_60, lit_62, lit_63, lit_89, lit_92, lit_96, lit_97, lit_99, lit_100, lit_102, lit_103, lit_104, lit_110, lit_111, lit_115, lit_117, lit_194, lit_200, lit_644, lit_736, lit_999, lit_1000, lit_9999, lit_10000, lit_1000000000, lit_17, lit_18, lit_19, lit_25, lit_26, lit_37, lit_46, lit_54, lit_70]
    rw [if_neg (by rw [nI_leE (by decide) (by omega)]; omega), v_sum hR hi, mbp_eq, g_undoCount hz, mbp_eq]
    refine mlet_k ek ?_
    rw [g_holderCount hR, mbp_eq]
    refine mlet_k ea ?_
    rw [nI_add, nI_add, eh, mbp_eq, g_presentedCount hR, mbp_eq, g_lockedHours hR, mbp_eq, g_failedAttempts hR, mbp_eq, g_isOpen hR hi, mbp_eq, v_threshold hR hi, mbp_eq, eagr, mbp_eq, etold, mbp_eq, nI_add, e2, mbp_eq, nI_add, mlet_eq, ea1, mbnd_eq, nI_add, ez, mbp_eq, ea2, mbnd_eq, g_alarmCount hR38, mbp_eq, g_hour hR38, mbp_eq, g_openingCount hR38, mbp_eq, v_visit hR38 hi (by decide), mbp_eq, ed, mbnd_eq]
    refine mlet_k eb ?_
    refine mlet_k es ?_
    refine mlet_k (fun k => k_1 hRg hig hb hkd hc1 k) ?_
    refine mlet_k (fun k => k_2 hRg hig hb hkd (by omega) hc2 k) ?_
    rw [mlet_eq, and11]
    refine mlet_k (fun k => k_3 hRg hig hb hkd (by omega) hc3 k) ?_
    rw [mlet_eq, and11]
    refine mlet_k (fun k => k_T hkd k) ?_
    refine mlet_k (fun k => k_4 hi hb ht2 hc4 k) ?_
    rw [mlet_eq, and11]
    refine mlet_k (fun k => k_5 (H := 312 * n + 312) hRg hig (hi.mono (by omega)) (by omega) hb ht2 hc5 (Nat.le_trans h2.2.2 (by omega)) k) ?_
    rw [mlet_eq, and11]
    refine mlet_k (fun k => k_6 hRg hig (hi.mono (by omega)) hb hkd hc6 k) ?_
    rw [mlet_eq, and11]
    refine mlet_k (fun k => k_P hb hkd k) ?_
    refine mlet_k2 (v := nI 1) (m := (M1, Y)) e7 ?_
    rw [mlet_eq, and11]
    refine mlet_k (fun k => k_8 (N := (M1, Y)) (γ := γ) (kp1.R hRg) hkd hp2 hc8 k) ?_
    rw [mlet_eq, and11, mlet_eq, nI_add, if_neg (by decide)]
    refine mlet_k eal ?_
    rw [ew, mbnd_eq, if_neg (by decide)]
    refine mlet_k2 (v := nI (made + b)) (m := (M2, if b = 0 then Y else updL Y (made + 1) (sumV γ))) (fun k => ?_) ?_
    · rcases (show b = 0 ∨ b = 1 by omega) with q | q
      · obtain ⟨g1, -, g3⟩ := hb0 q
        have g4 := (g3.keep kp1).keep kp2
        rw [if_pos (by rw [q]), v_sum hR2 hig, mbp_eq, g1, lg_self, if_pos rfl, g_undoCount g4, mbp_eq, if_pos rfl, q, if_pos rfl]
        rfl
      · rw [if_neg (by rw [q]; decide), nI_add, mlet_eq, v_sum hR2 hig, mbp_eq, q, if_neg (by decide)]
        unfold mix
        rw [nI_nat (by omega), if_neg ?_, mlet_eq]
        rw [show (0 : Int32) = nI 0 from rfl, nI_ltE (by omega) (by decide)]
        omega
    rw [nI_add, mlet_eq]
  rcases (show b = 0 ∨ b = 1 by omega) with q | q
  · obtain ⟨g1, -, g3⟩ := hb0 q
    have g4 := (g3.keep kp1).keep kp2
    refine ⟨made, M2, Y, sec', S, nx, ?_, by omega, ?_, fun j hj => (hSi j hj).mono (by omega), ?_, ?_, ?_, hY⟩
    · rw [chain, q, if_pos rfl]
      rfl
    · rw [← hα, ← g1]; exact g4
    · rw [← hα, ← g1]; exact h2g
    · rw [← hα, ← g1]; exact hdg
    · rw [← hα, ← g1]; exact hsec
  · obtain ⟨-, -, g3⟩ := hb1 q
    have g4 := (g3.keep kp1).keep kp2
    have eS : ∀ j, j ≤ made → (if j = made + 1 then γ else S j) = S j := fun j hj => if_neg (by omega)
    have eK : minK (KK made) = KK (made + 1) := by unfold minK KK; (repeat' split) <;> omega
    refine ⟨made + 1, M2, updL Y (made + 1) (sumV γ), sec', fun j => if j = made + 1 then γ else S j, (nx + 1) % 9, ?_, by omega, ?_, fun j hj => ?_, ?_, ?_, ?_, fun j hj => ?_⟩
    · rw [chain, q, if_neg (by decide)]
    · refine RZ_cg (α := _) (by show RZ M2 (if made + 1 = made + 1 then γ else S (made + 1)) _ _ _; rw [if_pos rfl]; exact g4) eK (fun k hk => ?_)
      rw [eK] at hk
      show _ = if made + 1 - KK (made + 1) + k = made + 1 then γ else S (made + 1 - KK (made + 1) + k)
      rw [hα]
      exact ring_push hk
    · show Inv (312 * (n + 1)) (if j = made + 1 then γ else S j)
      by_cases qj : j = made + 1
      · rw [if_pos qj]; exact hig.mono (by omega)
      · rw [if_neg qj]; exact (hSi j (by omega)).mono (by omega)
    · show In2 (312 * (n + 1)) (if made + 1 = made + 1 then γ else S (made + 1))
      rw [if_pos rfl]; exact h2g.mono (by omega)
    · show DG (if made + 1 = made + 1 then γ else S (made + 1))
      rw [if_pos rfl]; exact hdg
    · show (if made + 1 = made + 1 then γ else S (made + 1)) 1 = 1 → sec' = nI ((if made + 1 = made + 1 then γ else S (made + 1)) 2)
      rw [if_pos rfl]; exact hsec
    · show updL Y (made + 1) (sumV γ) j = sumV (if j = made + 1 then γ else S j)
      unfold updL
      by_cases qj : j = made + 1
      · rw [if_pos qj, if_pos qj]
      · rw [if_neg qj, if_neg qj]; exact hY j (by omega)
theorem v_rounds (hxl : xl < 2147483648) (kk : Int32 → MemY → Option Int32) : ∀ d n made nx M Y sec S, n + d = 54 → LR n made M Y sec S nx →
    ∃ made' M' Y' sec' S' nx', f_L_law_L31 xl xs (d + 1) (nI made) (nI (5 * n)) sec (nI n) (M, Y) kk = kk (nI made') (M', Y') ∧ LR 54 made' M' Y' sec' S' nx' := by
  intro d
  induction d with
  | zero =>
    intro n made nx M Y sec S hn h
    obtain rfl : n = 54 := by omega
    refine ⟨made, M, Y, sec, S, nx, ?_, h⟩
    rw [f_L_law_L31.eq_2, if_pos (show (54 : Int32) ≤ nI 54 by decide)]
  | succ d ih =>
    intro n made nx M Y sec S hn h
    obtain ⟨made1, M1, Y1, sec1, S1, nx1, e, h1⟩ := v_round (m := d + 1) hxl (by omega) h kk
    obtain ⟨made2, M2, Y2, sec2, S2, nx2, e2, h2⟩ := ih (n + 1) made1 nx1 M1 Y1 sec1 S1 (by omega) h1
    refine ⟨made2, M2, Y2, sec2, S2, nx2, ?_, h2⟩
    rw [e, show 5 * n + 5 = 5 * (n + 1) by omega]
    exact e2
end ROUND
