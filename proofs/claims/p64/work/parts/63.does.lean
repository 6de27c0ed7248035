/-! WHAT A DRAWN CALL DOES -/
theorem ite_k {β γ : Type} {c : Prop} [Decidable c] (a b : γ) (k : γ → β) : (if c then k a else k b) = k (if c then a else b) := by
  split <;> rfl
theorem mlet_P {γ β : Type} {P : Option β → Prop} {F : γ → Option β} {K : (γ → Option β) → Option β} {v : γ} (h : ∀ k, K k = k v) (h2 : P (F v)) : P (mlet F K) := by
  have e : mlet F K = F v := h F
  rw [e]
  exact h2
theorem mdg_I {β : Type} {d : Nat} (hd : d ≤ 9) (k : Nat → Option β) : mdg (nI d) k = k d := by
  unfold mdg
  rw [if_pos ⟨by rw [show (0 : Int32) = nI 0 from rfl, nI_leE (by decide) (by omega)]; omega, by rw [show (9 : Int32) = nI 9 from rfl, nI_leE (by omega) (by decide)]; exact hd⟩, nI_nat (by omega)]
/-- what the law's checks ask of a call that is done -/
def dOK (kd hd hr x : Nat) (α β : Sp) (ans : Nat) : Prop :=
  (3 ≤ kd ∧ kd < 6 → β 1 = 1 ∧ β 2 = x % 97 ∧ β 6 = 0 ∧ β 7 = 0 ∧ β 8 = 0 ∧ β 9 = 0 ∧ ∀ h, h < β 0 → β (15 + h) = crv β h) ∧
  (10 ≤ kd ∧ kd < 18 → sGive α (nI hd) = .inr (ans, β)) ∧ (18 ≤ kd ∧ kd < 20 → sBack α (nI hd) = .inr (ans, β)) ∧ (20 ≤ kd ∧ kd < 25 → sOpen α = .inr (ans, β)) ∧ (kd = 25 → sClose α = .inr (ans, β)) ∧
  (38 ≤ kd ∧ kd < 46 → sHours α (nI hr) = .inr (ans, β)) ∧ (kd < 38 → β 11 = α 11 ∧ β 13 = α 13) ∧ (¬ (3 ≤ kd ∧ kd < 6) → ∀ j, 1 ≤ j → j ≤ 5 → β j = α j)
theorem dOK_no {kd hd hr x : Nat} {α β : Sp} {ans : Nat} (h : kd < 3 ∨ 6 ≤ kd ∧ kd < 10 ∨ 26 ≤ kd ∧ kd < 38) (h1 : β 11 = α 11) (h2 : β 13 = α 13) (h3 : ∀ j, 1 ≤ j → j ≤ 5 → β j = α j) : dOK kd hd hr x α β ans :=
  ⟨fun q => by omega, fun q => by omega, fun q => by omega, fun q => by omega, fun q => by omega, fun q => by omega, fun _ => ⟨h1, h2⟩, fun _ => h3⟩
/-- what a drawn call comes to -/
def DR (kd hd hr x H : Nat) (α : Sp) (αh : Nat → Sp) (K nx : Nat) (r : Int32) (M1 : Mem) : Prop :=
  (∃ ans β, ans < 2147483648 ∧ r = nI ans ∧ dOK kd hd hr x α β ans ∧ Inv (H + 312) β ∧ In2 (H + 312) β ∧ DG β ∧ RZ M1 β (pushH αh K α) (minK K) ((nx + 1) % 9)) ∨
  ((20 ≤ kd ∧ kd < 25 → ∃ z, sOpen α = .inl z) ∧ (∃ c, 71 ≤ c ∧ c ≤ 79 ∧ r = -nI c) ∧ RZ M1 α αh K nx)
theorem z_done {kd hd hr x H K nx : Nat} {α : Sp} {αh : Nat → Sp} {e : Ex} {y : Option (Int32 × Mem)} (hc : Zop α αh K nx e y)
    (hf : ∀ ans β, e = .inr (ans, β) → ans < 2147483648 ∧ dOK kd hd hr x α β ans ∧ Inv (H + 312) β ∧ In2 (H + 312) β ∧ DG β) (ho : 20 ≤ kd ∧ kd < 25 → e = sOpen α) : ∃ r M1, (mbnd y fun r M => some (r, M)) = some (r, M1) ∧ DR kd hd hr x H α αh K nx r M1 := by
  obtain ⟨r, M1, e1, hc⟩ := hc
  refine ⟨r, M1, by rw [e1, mbnd_eq], ?_⟩
  rcases hc with ⟨ans, β, q1, q2, q3⟩ | ⟨⟨kd', q1⟩, q2, q3⟩
  · obtain ⟨f1, f2, f3, f4, f5⟩ := hf ans β q1
    exact Or.inl ⟨ans, β, f1, q2, f2, f3, f4, f5, q3⟩
  · exact Or.inr ⟨fun h => ⟨kd', by rw [← ho h]; exact q1⟩, q2, q3⟩
theorem seal_fact {α β : Sp} {ans x : Nat} {a1 a2 a3 a4 : Int32} (b0 : α 0 ≤ 8) (ha : a1 = nI 97 ∨ a1 = nI (x % 97)) (he : sSeal α a1 a2 a3 a4 = .inr (ans, β)) : ans < 2147483648 ∧ (β 1 = 1 ∧ β 2 = x % 97 ∧ β 6 = 0 ∧ β 7 = 0 ∧ β 8 = 0 ∧ β 9 = 0 ∧ ∀ h, h < β 0 → β (15 + h) = crv β h) ∧ β 11 = α 11 ∧ β 13 = α 13 := by
  unfold sSeal at he
  split at he
  · rename_i q
    have e1 : a1.toNatClampNeg = x % 97 := by
      rcases ha with rfl | rfl
      · rw [idx_I (by decide)] at q
        simp only [Nat.lt_irrefl, decide_false, Bool.false_and, Bool.false_eq_true] at q
      · exact nI_nat (by omega)
    rw [e1] at he
    split at he
    · cases he
    · cases he
      refine ⟨by omega, ⟨rfl, rfl, rfl, rfl, rfl, rfl, fun h hh => ?_⟩, ?_, ?_⟩
      · have h0 : ∀ n1 c1 c2 n4, sealSp α n1 c1 c2 n4 0 = α 0 := fun n1 c1 c2 n4 => by rw [sealSp_at, if_neg (by omega), if_neg (by omega), if_neg (by omega), if_neg (by omega), if_neg (by omega), if_neg (by omega), if_neg (by omega), if_neg (by omega), if_neg (by omega), if_neg (by omega), if_neg (by omega)]
        rw [h0] at hh
        rw [sealSp_at, if_neg (by omega), if_neg (by omega), if_neg (by omega), if_neg (by omega), if_neg (by omega), if_neg (by omega), if_neg (by omega), if_neg (by omega), if_neg (by omega), if_neg (by omega), if_pos (by omega), show 15 + h - 15 + 1 = h + 1 by omega]
        rfl
      · rw [sealSp_at, if_neg (by omega), if_neg (by omega), if_neg (by omega), if_neg (by omega), if_neg (by omega), if_neg (by omega), if_neg (by omega), if_neg (by omega), if_neg (by omega), if_neg (by omega), if_neg (by omega)]
      · rw [sealSp_at, if_neg (by omega), if_neg (by omega), if_neg (by omega), if_neg (by omega), if_neg (by omega), if_neg (by omega), if_neg (by omega), if_neg (by omega), if_neg (by omega), if_neg (by omega), if_neg (by omega)]
  · cases he
section DOES
variable {M : Mem} {α : Sp} {αh : Nat → Sp} {K nx H : Nat} {xl : Nat} {xs : Nat → Int32}
theorem v_doesT (hz : RZ M α αh K nx) (hi : Inv H α) (h2 : In2 H α) (hd : DG α) (hH : H < 799000) {h hours w x kd hd9 hr : Nat} (hk : 46 ≤ kd) (hh : h ≤ 8) (hhr : hours ≤ 8) (hw : w < 1000) (hx : x < 1000) :
    ∃ r M1, f_L_doesT (nI h) (nI hours) (nI w) (nI x) M = some (r, M1) ∧ DR kd hd9 hr x H α αh K nx r M1 := by
  have key : ∀ L : List Nat, L.length ≤ 14 → (∀ i, i < L.length → L.getD i 0 < 65536) → okT L = true → ∃ r M1, rText L M = some (r, M1) ∧ DR kd hd9 hr x H α αh K nx r M1 := fun L l1 l2 l3 => by
    obtain ⟨r, M1, e, hc⟩ := v_rText hz hi h2 hd hH l1 l2 l3
    refine ⟨r, M1, e, ?_⟩
    rcases hc with ⟨n, β, q1, q2, q3, q4, q5, q6, q7, q8⟩ | ⟨q1, q2⟩
    · exact Or.inl ⟨n, β, by omega, q3, ⟨fun q => by omega, fun q => by omega, fun q => by omega, fun q => by omega, fun q => by omega, fun q => by omega, fun q => by omega, fun _ => q7⟩, q4, q5, q6, q8⟩
    · exact Or.inr ⟨fun q => by omega, q1, q2⟩
  have dg : ∀ d, d ≤ 9 → 48 + d < 65536 := fun d h => by omega
  have la : x % 8 < 8 := Nat.mod_lt _ (by decide)
  have lb : w % 9 < 9 := Nat.mod_lt _ (by decide)
  have hbig : ∀ t : List Nat, t.all (fun y => decide (y < 65536)) = true → (dText (x % 8) (1 + w % 9) t).all (fun y => decide (y < 65536)) = true := fun t ht => by
    show (List.all (104 :: 117 :: 109 :: 32 :: (48 + x % 8) :: 32 :: (48 + (1 + w % 9)) :: t) _) = true
    simp only [List.all_cons, ht, Bool.and_true, Bool.and_eq_true, decide_eq_true_iff]
    omega
  unfold f_L_doesT
  simp only [lit_0, lit_1, lit_2, lit_3, lit_4, lit_5, lit_6, lit_7, lit_8, lit_9, lit_10, lit_11, lit_12, lit_13, lit_14, lit_15, lit_16, lit_20, lit_23, lit_24, lit_31, lit_32, lit_39, lit_43, lit_45, lit_47, lit_48, lit_56, lit_57, lit_59, lit_60, lit_62, lit_63, lit_89, lit_92, lit_96, lit_97, lit_99, lit_100, lit_102, lit_103, lit_104, lit_110, lit_111, lit_115, lit_117, lit_194, lit_200, lit_644, lit_736, lit_999, lit_1000, lit_9999, lit_10000, lit_1000000000]
  rw [nI_rem (by omega) (by decide), mdg_I (by omega), nI_rem (by omega) (by decide), nI_add, mdg_I (by omega), nI_rem (by omega) (by decide)]
  have l4 : w % 4 < 4 := Nat.mod_lt _ (by decide)
  by_cases q0 : w % 4 = 0
  · rw [if_pos (by rw [q0]), mdg_I (by omega)]
    refine key _ (dLen (by show 7 ≤ 7; decide)) (dBig (hbig _ ?_)) (okT_2 ⟨x % 8, la⟩ ⟨w % 9, lb⟩ ⟨hours, by omega⟩)
    simp only [dWait, List.all_cons, List.all_nil, Bool.and_true, Bool.and_eq_true, decide_eq_true_iff]
    omega
  rw [if_neg (by rw [nI_eqE (by omega) (by decide)]; exact q0)]
  by_cases q1 : w % 4 = 1
  · rw [if_pos (by rw [q1]), mdg_I (by omega)]
    refine key _ (dLen (by show 7 ≤ 7; decide)) (dBig (hbig _ ?_)) (okT_3 ⟨x % 8, la⟩ ⟨w % 9, lb⟩ ⟨h, by omega⟩)
    simp only [dGive, List.all_cons, List.all_nil, Bool.and_true, Bool.and_eq_true, decide_eq_true_iff]
    omega
  rw [if_neg (by rw [nI_eqE (by omega) (by decide)]; exact q1)]
  by_cases q2 : w % 4 = 2
  · rw [if_pos (by rw [q2])]
    exact key _ (dLen (by show 6 ≤ 7; decide)) (dBig (hbig _ (by decide))) (okT_1 ⟨x % 8, la⟩ ⟨w % 9, lb⟩).1
  · rw [if_neg (by rw [nI_eqE (by omega) (by decide)]; exact q2)]
    exact key _ (dLen (by show 1 ≤ 7; decide)) (dBig (hbig _ (by decide))) (okT_1 ⟨x % 8, la⟩ ⟨w % 9, lb⟩).2
theorem v_does (hxl : xl < 2147483648) (hz : RZ M α αh K nx) (hi : Inv H α) (h2 : In2 H α) (hd : DG α) (hH : H < 799000) {k kd h hours x : Nat} (hk : k < 1000) (hkd : kd < 48) (hh : h ≤ 8) (hhr : hours ≤ 8) (hx : x < 1000) (hp : ∀ M, f_L_pick xl xs (nI (k + 4)) (nI 1000) M = some (nI x)) :
    ∃ r M1, f_L_does xl xs (nI k) (nI kd) (nI h) (nI hours) M = some (r, M1) ∧ DR kd h hours x H α αh K nx r M1 := by
  obtain ⟨w, hw, hpw⟩ := v_pick (xs := xs) hxl (a := k + 3) (c := 1000) (by omega) (by decide) (by decide)
  have hi' := hi
  obtain ⟨⟨b0, b1, b2, b3, b4, b5, b6, b7, b8, b9, b10, b11, b14⟩, i1, i2, bs, bk, bn, bz, bt, bg, bl⟩ := hi'
  have up1 : ∀ {β : Sp}, Inv H β → Inv (H + 312) β := fun h => h.mono (by omega)
  have up2 : ∀ {β : Sp}, In2 H β → In2 (H + 312) β := fun h => h.mono (by omega)
  have hR := hz.1
  unfold f_L_does
  simp only [lit_0, lit_1, lit_2, lit_3, lit_4, lit_5, lit_6, lit_7, lit_8, lit_9, lit_10, lit_11, lit_12, lit_13, lit_14, lit_15, lit_16, lit_20, lit_23, lit_24, lit_31, lit_32, lit_39, lit_43, lit_45, lit_47, lit_48, lit_56, lit_57, lit_59, lit_60, lit_62, lit_63, lit_89, lit_92, lit_96, lit_97, lit_99, lit_100, lit_102, lit_103, lit_104, lit_110, lit_111, lit_115, lit_117, lit_194, lit_200, lit_644, lit_736, lit_999, lit_1000, lit_9999, lit_10000, lit_1000000000, lit_18, lit_19, lit_25, lit_29, lit_38, lit_46]
  rw [nI_add, hpw, mbp_eq, nI_add, hp, mbp_eq, g_guardCount hR, mbp_eq]
  by_cases r1 : kd < 3
  · rw [if_neg (by rw [nI_leE (by decide) (by omega)]; omega)]
    exact z_done (z_addHolder hz hi) (fun ans β he => ⟨by unfold sAdd at he; split at he <;> cases he; omega, dOK_no (Or.inl r1) (keep_add hi he (by omega)) (keep_add hi he (by omega)) (fun j q1 q2 => keep_add hi he (by omega)), up1 (inv_add hi he), up2 (in2_add hi h2 he), hd.cg (fun j q1 q2 => keep_add hi he (by omega))⟩) (fun q => by omega)
  rw [if_pos (by rw [nI_leE (by decide) (by omega)]; omega)]
  by_cases r2 : kd < 6
  · rw [if_neg (by rw [nI_leE (by decide) (by omega)]; omega)]
    refine mlet_P (P := fun z => ∃ r M1, z = some (r, M1) ∧ DR kd h hours x H α αh K nx r M1) (v := if nI (w % 29) = nI 0 then nI 97 else nI (x % 97)) (fun k => ?_) ?_
    · rw [nI_rem (by omega) (by decide), nI_rem (by omega) (by decide)]
      exact ite_k _ _ k
    refine z_done (z_seal hz hi _ _ _ _) (fun ans β he => ?_) (fun q => by omega)
    obtain ⟨f1, f2, f3, f4⟩ := seal_fact (x := x) b0 (by split <;> first | exact Or.inl rfl | exact Or.inr rfl) he
    exact ⟨f1, ⟨fun _ => f2, fun q => by omega, fun q => by omega, fun q => by omega, fun q => by omega, fun q => by omega, fun _ => ⟨f3, f4⟩, fun q => by omega⟩, up1 (inv_seal hi he), up2 (in2_seal hi h2 he), dg_seal he⟩
  rw [if_pos (by rw [nI_leE (by decide) (by omega)]; omega)]
  by_cases r3 : kd < 10
  · rw [if_neg (by rw [nI_leE (by decide) (by omega)]; omega)]
    refine mlet_P (P := fun z => ∃ r M1, z = some (r, M1) ∧ DR kd h hours x H α αh K nx r M1) (v := if mrem (nI w) (nI 29) = nI 0 then nI 97 else mrem (nI x) (nI 97)) (fun k => ite_k _ _ k) ?_
    refine z_done (z_setShare hz hi _ _) (fun ans β he => ⟨?_, dOK_no (Or.inr (Or.inl ⟨by omega, r3⟩)) (keep_share hi he (by omega)) (keep_share hi he (by omega)) (fun j q1 q2 => keep_share hi he (by omega)), up1 (inv_share hi he), up2 (in2_share hi h2 he), hd.cg (fun j q1 q2 => keep_share hi he (by omega))⟩) (fun q => by omega)
    unfold sShare at he
    rw [idx_I (by omega)] at he
    split at he
    · rename_i q
      have := of_decide_eq_true q
      have := bs h (by omega)
      (repeat' split at he) <;> cases he <;> (rw [nI_nat (by omega)]; omega)
    · cases he
  rw [if_pos (by rw [nI_leE (by decide) (by omega)]; omega)]
  by_cases r4 : kd < 18
  · rw [if_neg (by rw [nI_leE (by decide) (by omega)]; omega)]
    exact z_done (z_present hz hi _) (fun ans β he => ⟨by unfold sGive at he; (repeat' split at he) <;> cases he <;> omega, ⟨fun q => by omega, fun _ => he, fun q => by omega, fun q => by omega, fun q => by omega, fun q => by omega, fun _ => ⟨keep_give hi he (by omega), keep_give hi he (by omega)⟩, fun _ j q1 q2 => keep_give hi he (by omega)⟩, up1 (inv_give hi he), up2 (in2_give hi h2 he), hd.cg (fun j q1 q2 => keep_give hi he (by omega))⟩) (fun q => by omega)
  rw [if_pos (by rw [nI_leE (by decide) (by omega)]; omega)]
  by_cases r5 : kd < 20
  · rw [if_neg (by rw [nI_leE (by decide) (by omega)]; omega)]
    exact z_done (z_takeBack hz hi _) (fun ans β he => ⟨by unfold sBack at he; (repeat' split at he) <;> cases he <;> omega, ⟨fun q => by omega, fun q => by omega, fun _ => he, fun q => by omega, fun q => by omega, fun q => by omega, fun _ => ⟨keep_back hi he (by omega), keep_back hi he (by omega)⟩, fun _ j q1 q2 => keep_back hi he (by omega)⟩, up1 (inv_back hi he), up2 (in2_back hi h2 he), hd.cg (fun j q1 q2 => keep_back hi he (by omega))⟩) (fun q => by omega)
  rw [if_pos (by rw [nI_leE (by decide) (by omega)]; omega)]
  by_cases r6 : kd < 25
  · rw [if_neg (by rw [nI_leE (by decide) (by omega)]; omega)]
    exact z_done (z_openVault hz hi) (fun ans β he => ⟨by rcases (open_spec hi he).2 with ⟨-, q, -⟩ | ⟨-, q, -⟩ <;> omega, ⟨fun q => by omega, fun q => by omega, fun q => by omega, fun _ => he, fun q => by omega, fun q => by omega, fun _ => ⟨keep_open hi he (by omega), keep_open hi he (by omega)⟩, fun _ j q1 q2 => keep_open hi he (by omega)⟩, up1 (inv_open hi he), (in2_open hi h2 he).mono (by omega), hd.cg (fun j q1 q2 => keep_open hi he (by omega))⟩) (fun _ => rfl)
  rw [if_pos (by rw [nI_leE (by decide) (by omega)]; omega)]
  by_cases r7 : kd = 25
  · rw [if_pos (by rw [r7])]
    exact z_done (z_closeVault hz hi) (fun ans β he => ⟨by rw [(close_spec hi he).2.2.1]; omega, ⟨fun q => by omega, fun q => by omega, fun q => by omega, fun q => by omega, fun _ => he, fun q => by omega, fun _ => ⟨keep_close hi he (by omega), keep_close hi he (by omega)⟩, fun _ j q1 q2 => keep_close hi he (by omega)⟩, up1 (inv_close hi he), up2 (in2_close hi h2 he), hd.cg (fun j q1 q2 => keep_close hi he (by omega))⟩) (fun q => by omega)
  rw [if_neg (by rw [nI_eqE (by omega) (by decide)]; exact r7)]
  by_cases r8 : kd < 29
  · rw [if_neg (by rw [nI_leE (by decide) (by omega)]; omega)]
    refine mlet_P (P := fun z => ∃ r M1, z = some (r, M1) ∧ DR kd h hours x H α αh K nx r M1) (v := if mrem (nI w) (nI 29) = nI 0 then nI 8 else if mrem (nI w) (nI 2) = nI 0 then nI 0 else mrem (nI x) (nI 8)) (fun k => ?_) ?_
    · rw [ite_k (c := mrem (nI w) (nI 2) = nI 0) _ _ k]
      exact ite_k _ _ k
    refine mlet_P (P := fun z => ∃ r M1, z = some (r, M1) ∧ DR kd h hours x H α αh K nx r M1) (v := nI (if mrem (nI x) (nI 2) = nI 0 then 1 else 0)) (fun k => ?_) ?_
    · rw [ite_k _ _ k]
      split <;> rfl
    exact z_done (z_addGuard hz hi _ _ (by split <;> decide)) (fun ans β he => ⟨by unfold sGuard at he; (repeat' split at he) <;> cases he <;> omega, dOK_no (Or.inr (Or.inr ⟨by omega, by omega⟩)) (keep_guard hi he (by omega)) (keep_guard hi he (by omega)) (fun j q1 q2 => keep_guard hi he (by omega)), up1 (inv_guard (by split <;> decide) hi he), up2 (in2_guard hi h2 he), hd.cg (fun j q1 q2 => keep_guard hi he (by omega))⟩) (fun q => by omega)
  rw [if_pos (by rw [nI_leE (by decide) (by omega)]; omega)]
  by_cases r9 : kd < 31
  · rw [if_neg (by rw [nI_leE (by decide) (by omega)]; omega)]
    refine mlet_P (P := fun z => ∃ r M1, z = some (r, M1) ∧ DR kd h hours x H α αh K nx r M1) (v := if mrem (nI w) (nI 19) = nI 0 then nI (α 10) else if nI (α 10) = nI 0 then nI (α 10) else mrem (nI x) (nI (α 10))) (fun k => ?_) ?_
    · rw [mlet_eq]
      split
      · rfl
      · split
        · rfl
        · rename_i q
          unfold mdiv
          rw [if_neg (show ¬ nI (α 10) = 0 from q)]
    refine z_done (z_turnGuard hz hi _) (fun ans β he => ⟨?_, dOK_no (Or.inr (Or.inr ⟨by omega, by omega⟩)) (keep_turn hi he (by omega)) (keep_turn hi he (by omega)) (fun j q1 q2 => keep_turn hi he (by omega)), up1 (inv_turn hi he), up2 (in2_turn hi h2 he), hd.cg (fun j q1 q2 => keep_turn hi he (by omega))⟩) (fun q => by omega)
    generalize (if mrem (nI w) (nI 19) = nI 0 then nI (α 10) else if nI (α 10) = nI 0 then nI (α 10) else mrem (nI x) (nI (α 10))) = a at he
    unfold sTurn at he
    rcases idx_c a (α 10) (by omega) with ⟨n1, h1, rfl, e1⟩ | ⟨e1, -⟩
    · rw [if_pos e1] at he
      cases he
      rw [nI_nat (by omega)]
      have := bg n1 (by omega)
      omega
    · rw [if_neg (by rw [e1]; decide)] at he
      cases he
  rw [if_pos (by rw [nI_leE (by decide) (by omega)]; omega)]
  by_cases r10 : kd < 38
  · rw [if_neg (by rw [nI_leE (by decide) (by omega)]; omega)]
    refine mlet_P (P := fun z => ∃ r M1, z = some (r, M1) ∧ DR kd h hours x H α αh K nx r M1) (v := if mrem (nI w) (nI 23) = nI 0 then nI 10 else nI 1 + mrem (nI w) (nI 9)) (fun k => ite_k _ _ k) ?_
    refine z_done (z_hum hz hi _ _) (fun ans β he => ⟨?_, dOK_no (Or.inr (Or.inr ⟨by omega, by omega⟩)) (keep_hum he (by omega)) (keep_hum he (by omega)) (fun j q1 q2 => keep_hum he (by omega)), up1 (inv_hum hi he), up2 (in2_hum hi h2 he), hd.cg (fun j q1 q2 => keep_hum he (by omega))⟩) (fun q => by omega)
    unfold sHum humV at he
    (repeat' split at he) <;> cases he <;> omega
  rw [if_pos (by rw [nI_leE (by decide) (by omega)]; omega)]
  by_cases r11 : kd < 46
  · rw [if_neg (by rw [nI_leE (by decide) (by omega)]; omega)]
    refine z_done (z_passHours hz hi (by omega) _) (fun ans β he => ⟨?_, ⟨fun q => by omega, fun q => by omega, fun q => by omega, fun q => by omega, fun q => by omega, fun _ => he, fun q => by omega, fun _ j q1 q2 => keep_hours hi (by omega) he (by omega)⟩, (inv_hours hi (by omega) he).mono (by omega), (in2_hours hi h2 (by omega) he).mono (by omega), hd.cg (fun j q1 q2 => keep_hours hi (by omega) he (by omega))⟩) (fun q => by omega)
    unfold sHours at he
    split at he
    · cases he
      rw [nI_nat (by omega)]
      have := hrsN_le hi (n := hours) (by omega)
      omega
    · cases he
  rw [if_pos (by rw [nI_leE (by decide) (by omega)]; omega)]
  exact v_doesT hz hi h2 hd hH (by omega) hh hhr hw hx
end DOES
