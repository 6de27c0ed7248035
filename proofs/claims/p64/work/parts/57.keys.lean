/-! THE PRESENTED KEYS: what their curves tell -/
/-- the seal's curve has no more coefficients than its threshold -/
def DG (α : Sp) : Prop := α 1 = 1 → (α 5 ≤ 1 → α 3 = 0) ∧ (α 5 ≤ 2 → α 4 = 0)
theorem DG.cg {α β : Sp} (h : DG α) (e : ∀ j, 1 ≤ j → j ≤ 5 → β j = α j) : DG β := by
  unfold DG
  rw [e 1 (by decide) (by decide), e 5 (by decide) (by decide), e 3 (by decide) (by decide), e 4 (by decide) (by decide)]
  exact h
theorem dg_sealSp {α : Sp} {n1 c1 c2 n4 : Nat} : DG (sealSp α n1 (if 1 < n4 then c1 else 0) (if 2 < n4 then c2 else 0) n4) := by
  generalize e1 : (if 1 < n4 then c1 else 0) = x
  generalize e2 : (if 2 < n4 then c2 else 0) = y
  have e3 : sealSp α n1 x y n4 3 = x := by
    unfold sealSp
    rw [if_neg (by decide), if_neg (by decide), if_pos rfl]
  have e4 : sealSp α n1 x y n4 4 = y := by
    unfold sealSp
    rw [if_neg (by decide), if_neg (by decide), if_neg (by decide), if_pos rfl]
  have e5 : sealSp α n1 x y n4 5 = n4 := by
    unfold sealSp
    rw [if_neg (by decide), if_neg (by decide), if_neg (by decide), if_neg (by decide), if_pos rfl]
  intro _
  rw [e3, e4, e5]
  exact ⟨fun h => by rw [← e1]; exact if_neg (by omega), fun h => by rw [← e2]; exact if_neg (by omega)⟩
theorem dg_seal {ans : Nat} {α β : Sp} {a1 a2 a3 a4 : Int32} (he : sSeal α a1 a2 a3 a4 = .inr (ans, β)) : DG β := by
  unfold sSeal at he
  split at he
  · split at he
    · cases he
    · have h2 := Sum.inr.inj he
      have h3 := congrArg Prod.snd h2
      have h4 : sealSp α a1.toNatClampNeg (if 1 < a4.toNatClampNeg then a2.toNatClampNeg else 0) (if 2 < a4.toNatClampNeg then a3.toNatClampNeg else 0) a4.toNatClampNeg = β := h3
      rw [← h4]
      exact dg_sealSp
  · cases he
/-- the seal's curve -/
def dl (α : Sp) (k : Nat) : Z := zz (α (2 + k))
theorem dl_deg {α : Sp} (hd : DG α) (h1 : α 1 = 1) (h5 : 1 ≤ α 5) : ∀ k, α 5 ≤ k → k < 3 → dl α k = 0 := by
  intro k h2 h3
  obtain ⟨d1, d2⟩ := hd h1
  unfold dl
  rcases (show k = 1 ∨ k = 2 by omega) with rfl | rfl
  · rw [d1 (by omega)]; rfl
  · rw [d2 (by omega)]; rfl
theorem zz_crv (α : Sp) (h : Nat) : zz (crv α h) = ev (dl α) (zz (h + 1)) := by
  unfold crv ev dl
  rw [zz_mod, zz_add, zz_add, zz_mul, zz_mul, zz_mul]
theorem onC_crv {α : Sp} {s t : Nat → Nat} {h : Nat} (e : dl α 0 = cf (α 5) s t 0 ∧ dl α 1 = cf (α 5) s t 1 ∧ dl α 2 = cf (α 5) s t 2) (hs : s h = crv α h) : onC (α 5) s t h = true := by
  rw [onC_t]
  refine zz_eq thr_lt (by rw [hs]; exact Nat.mod_lt _ (by decide)) ?_
  rw [zz_thr, hs, zz_crv]
  exact (ev_cg e _).symm
theorem mx_at {f : Nat → Nat} : ∀ n, 0 < mx f n → ∃ k, k < n ∧ f k = mx f n := by
  intro n
  induction n with
  | zero => intro h; exact absurd h (Nat.lt_irrefl 0)
  | succ n ih =>
    intro h
    rw [mx_s] at h ⊢
    split
    · exact ⟨n, by omega, rfl⟩
    · rename_i q
      rw [if_neg q] at h
      obtain ⟨k, h1, h2⟩ := ih h
      exact ⟨k, by omega, h2⟩
section KEYS
variable {H : Nat} {α : Sp}
theorem T_le (hi : Inv H α) (he : en α) : (1 ≤ α 5 ∧ α 5 ≤ 3) ∧ α 5 ≤ α 9 ∧ α 9 ≤ 8 := by
  have b5 := hi.1.2.2.2.2.2.1
  have b9 := hi.1.2.2.2.2.2.2.2.2.2.1
  have b0 := hi.1.1
  have := hi.2.2.1 he.1
  have := he.2
  omega
theorem sh_le (hi : Inv H α) : ∀ k, k < 8 → sh α k ≤ 96 := fun k hk => hi.2.2.2.1 k hk
theorem ky_lt (hi : Inv H α) {k : Nat} (hk : k < α 9) : ky α k < α 0 := hi.2.2.2.2.1 k hk
/-- the keys of the first places -/
def onA (α : Sp) : Nat := cnt (fun k => onC (α 5) (sh α) (ky α) (ky α k)) (α 9)
def okK (α : Sp) (k : Nat) : Bool := decide (α (15 + ky α k) = crv α (ky α k))
def rtA (α : Sp) : Nat := cnt (okK α) (α 9)
/-- a set of the first T places -/
theorem first_set {T n : Nat} (hT : 1 ≤ T ∧ T ≤ 3) (hTn : T ≤ n) (hn : n ≤ 8) : ∃ x, x < 2 ^ n ∧ pop x = T ∧ ∀ i, i < T → sel x i = i := by
  rcases (show T = 1 ∨ T = 2 ∨ T = 3 by omega) with rfl | rfl | rfl
  · obtain ⟨h1, h2, h3⟩ := tup_1 ⟨0, by decide⟩ ⟨n, by omega⟩ (by show 0 < n; omega)
    exact ⟨_, h1, h2, fun i hi => by obtain rfl : i = 0 := by omega
                                     exact h3⟩
  · obtain ⟨h1, h2, h3, h4⟩ := tup_2 ⟨0, by decide⟩ ⟨1, by decide⟩ ⟨n, by omega⟩ (by decide) (by show 1 < n; omega)
    exact ⟨_, h1, h2, fun i hi => by
      rcases (show i = 0 ∨ i = 1 by omega) with rfl | rfl
      · exact h3
      · exact h4⟩
  · obtain ⟨h1, h2, h3, h4, h5⟩ := tup_3 ⟨0, by decide⟩ ⟨1, by decide⟩ ⟨2, by decide⟩ ⟨n, by omega⟩ (by decide) (by decide) (by show 2 < n; omega)
    exact ⟨_, h1, h2, fun i hi => by
      rcases (show i = 0 ∨ i = 1 ∨ i = 2 by omega) with rfl | rfl | rfl
      · exact h3
      · exact h4
      · exact h5⟩
theorem most_on (hi : Inv H α) (he : en α) : onA α ≤ mostA α := by
  obtain ⟨hT, hTn, hn⟩ := T_le hi he
  obtain ⟨x, h1, h2, h3⟩ := first_set hT hTn hn
  have h := mx_ge (f := fC (α 5) (α 9) (sh α) (ky α)) (2 ^ (α 9)) x h1
  rw [fC_at, if_pos h2, onN_cg (u' := id) hT h3] at h
  exact h
theorem on_ge (hi : Inv H α) (he : en α) : α 5 ≤ onA α := by
  obtain ⟨hT, hTn, hn⟩ := T_le hi he
  refine cnt_ge (u := id) (fun i j h _ => h) (fun i h => ⟨by show i < α 9; omega, ?_⟩)
  exact onC_self hT (ky_tu hi hTn) (sh_le hi) h
theorem most_ge (hi : Inv H α) (he : en α) : α 5 ≤ mostA α := Nat.le_trans (on_ge hi he) (most_on hi he)
theorem most_le : mostA α ≤ α 9 := mx_le _ (fun _ _ => fC_le)
theorem on_le : onA α ≤ α 9 := cnt_le _
theorem most_rt (hi : Inv H α) (he : en α) (hd : DG α) : rtA α ≤ mostA α := by
  obtain ⟨hT, hTn, hn⟩ := T_le hi he
  by_cases q : rtA α < α 5
  · exact Nat.le_trans (Nat.le_of_lt q) (most_ge hi he)
  have hpop : pop (mk (okK α) (α 9)) = rtA α := mk_pop hn
  have hlt := mk_lt (P := okK α) (α 9)
  obtain ⟨f1, f2, f3⟩ := fst_all ⟨mk (okK α) (α 9), Nat.lt_of_lt_of_le hlt (pow_le hn)⟩ ⟨α 5, by omega⟩ (by show α 5 ≤ pop (mk (okK α) (α 9)); omega)
  have f1' : fst3 (α 5) (mk (okK α) (α 9)) ≤ mk (okK α) (α 9) := f1
  have f2' : pop (fst3 (α 5) (mk (okK α) (α 9))) = α 5 := f2
  have hx : fst3 (α 5) (mk (okK α) (α 9)) < 2 ^ (α 9) := Nat.lt_of_le_of_lt f1' hlt
  have hsel : ∀ i, i < α 5 → sel (fst3 (α 5) (mk (okK α) (α 9))) i = sel (mk (okK α) (α 9)) i := fun i hi => f3 ⟨i, by omega⟩ hi
  have hok : ∀ i, i < α 5 → okK α (sel (fst3 (α 5) (mk (okK α) (α 9))) i) = true := fun i hi => by
    rw [hsel i hi]
    obtain ⟨g1, g2, -⟩ := sel_p hn hlt (j := i) (by rw [hpop]; omega)
    rw [mk_tb (α 9) _ g1] at g2
    exact g2
  have hu := tu_sel (T := α 5) (ky_tu hi (Nat.le_refl (α 9))) hn hx (by rw [f2']; exact Nat.le_refl _)
  have hcf := cf_uniq (s := sh α) (δ := dl α) hT hu (dl_deg hd he.1 hT.1) (fun i h => by
    have h2 := hok i h
    have h3 : α (15 + ky α (sel (fst3 (α 5) (mk (okK α) (α 9))) i)) = crv α (ky α (sel (fst3 (α 5) (mk (okK α) (α 9))) i)) := of_decide_eq_true h2
    show ev (dl α) (zz (ky α (sel (fst3 (α 5) (mk (okK α) (α 9))) i) + 1)) = zz (α (15 + ky α (sel (fst3 (α 5) (mk (okK α) (α 9))) i)))
    rw [h3, zz_crv])
  have h := mx_ge (f := fC (α 5) (α 9) (sh α) (ky α)) (2 ^ (α 9)) _ hx
  rw [fC_at, if_pos f2'] at h
  refine Nat.le_trans ?_ h
  exact cnt_mono (α 9) (fun k _ h2 => onC_crv hcf (of_decide_eq_true h2))
theorem most_all (hi : Inv H α) (he : en α) : mostA α = α 9 ↔ onA α = α 9 := by
  obtain ⟨hT, hTn, hn⟩ := T_le hi he
  refine ⟨fun h => ?_, fun h => Nat.le_antisymm most_le (by rw [← h]; exact most_on hi he)⟩
  obtain ⟨x, h1, h2⟩ := mx_at (f := fC (α 5) (α 9) (sh α) (ky α)) (2 ^ (α 9)) (by show 0 < mostA α; omega)
  have h2' : fC (α 5) (α 9) (sh α) (ky α) x = α 9 := h2.trans h
  rw [fC_at] at h2'
  by_cases q : pop x = α 5
  · rw [if_pos q] at h2'
    have hall := (cnt_all (P := fun k => onC (α 5) (sh α) (fun i => ky α (sel x i)) (ky α k)) (α 9)).mp h2'
    have hc := cf_on' (s := sh α) (t := fun i => ky α (sel x i)) (t' := ky α) hT (ky_tu hi hTn) (fun i h => hall i (by omega))
    refine (cnt_all (α 9)).mpr (fun k hk => ?_)
    rw [← onC_cg hc (ky α k)]
    exact hall k hk
  · rw [if_neg q] at h2'
    omega
theorem one_on : one (α 5) (sh α) (ky α) (α 9) = true ↔ onA α = α 9 := by
  rw [one_cnt]
  rfl
/-- the first keys correct: they tell the secret -/
theorem told_is (hi : Inv H α) (he : en α) (hd : DG α) (h : ∀ k, k < α 5 → okK α k = true) : thr (α 5) (sh α) (ky α) 0 = α 2 := by
  obtain ⟨hT, hTn, hn⟩ := T_le hi he
  have hcf := cf_uniq (s := sh α) (δ := dl α) hT (ky_tu hi hTn) (dl_deg hd he.1 hT.1) (fun i h2 => by
    have h3 : α (15 + ky α i) = crv α (ky α i) := of_decide_eq_true (h i h2)
    show ev (dl α) (zz (ky α i + 1)) = zz (α (15 + ky α i))
    rw [h3, zz_crv])
  have b2 := hi.1.2.2.1
  refine zz_eq thr_lt (by omega) ?_
  rw [zz_thr, ← ev_cg hcf, zz_0]
  show zz (α (2 + 0)) + dl α 1 * 0 + dl α 2 * 0 * 0 = zz (α 2)
  rw [Fin.mul_zero, Fin.mul_zero, Fin.add_zero, Fin.add_zero]
end KEYS
/-! differences of a curve's values -/
theorem dif_rem : ∀ q : Fin 17, mrem (Int32.ofInt (97 * ((q.val : Int) - 8))) (nI 97) = nI 0 := by decide +kernel
theorem dif_0 {D : Int} (h : D % 97 = 0) (h1 : -776 ≤ D) (h2 : D ≤ 776) : mrem (Int32.ofInt D) (nI 97) = nI 0 := by
  have h3 := dif_rem ⟨(D / 97 + 8).toNat, by omega⟩
  have h4 : 97 * ((((D / 97 + 8).toNat : Nat) : Int) - 8) = D := by omega
  rw [← h4]
  exact h3
theorem nI_int (a : Nat) : nI a = Int32.ofInt (a : Int) := by
  exact Int32.ofInt_eq_ofNat.symm
theorem df2 {R : Type} [Lean.Grind.CommRing R] {a b x : R} : (a + b * (x + 2) + 0 * (x + 2) * (x + 2)) + (a + b * x + 0 * x * x) = 2 * (a + b * (x + 1) + 0 * (x + 1) * (x + 1)) := by grobner
theorem df3 {R : Type} [Lean.Grind.CommRing R] {a b c x : R} : (a + b * (x + 3) + c * (x + 3) * (x + 3)) + 3 * (a + b * (x + 1) + c * (x + 1) * (x + 1)) = 3 * (a + b * (x + 2) + c * (x + 2) * (x + 2)) + (a + b * x + c * x * x) := by grobner
theorem zz_inj {a b : Nat} (h : zz a = zz b) : a % 97 = b % 97 := congrArg Fin.val h
/-- the law's difference of four values in a row is 0 modulo 97 -/
theorem thr_dif {T x : Nat} {s t : Nat → Nat} (hT : 1 ≤ T ∧ T ≤ 3) {a b c d : Nat} (ea : a = thr T s t x) (eb : b = thr T s t ((x + 1) % 97)) (ec : c = thr T s t ((x + 2) % 97)) (ed : d = thr T s t ((x + 3) % 97)) :
    (T = 1 → mrem (nI b - nI a) (nI 97) = nI 0) ∧ (T = 2 → mrem ((nI c - (nI 2 * nI b)) + nI a) (nI 97) = nI 0) ∧ (T = 3 → mrem (((nI d - (nI 3 * nI c)) + (nI 3 * nI b)) - nI a) (nI 97) = nI 0) := by
  have la : a < 97 := by rw [ea]; exact thr_lt
  have lb : b < 97 := by rw [eb]; exact thr_lt
  have lc : c < 97 := by rw [ec]; exact thr_lt
  have ld : d < 97 := by rw [ed]; exact thr_lt
  have za : zz a = ev (cf T s t) (zz x) := by rw [ea, zz_thr]
  have zb : zz b = ev (cf T s t) (zz x + 1) := by rw [eb, zz_thr, zz_mod, zz_add]; rfl
  have zc : zz c = ev (cf T s t) (zz x + 2) := by rw [ec, zz_thr, zz_mod, zz_add]; rfl
  have zd : zz d = ev (cf T s t) (zz x + 3) := by rw [ed, zz_thr, zz_mod, zz_add]; rfl
  unfold ev at za zb zc zd
  refine ⟨fun h => ?_, fun h => ?_, fun h => ?_⟩
  · rw [cf_deg (k := 1) (by omega), cf_deg (k := 2) (by omega), Fin.zero_mul, Fin.zero_mul, Fin.add_zero, Fin.add_zero] at za zb
    have := zz_eq la lb (za.trans zb.symm)
    rw [this, nI_int, ← Int32.ofInt_sub]
    exact dif_0 (by omega) (by omega) (by omega)
  · have k2 : cf T s t 2 = 0 := cf_deg (by omega)
    rw [k2] at za zb zc
    have h9 : zz (c + a) = zz (2 * b) := by
      rw [zz_add, zz_mul, za, zb, zc]
      exact df2
    have h8 := zz_inj h9
    rw [nI_int a, nI_int b, nI_int c, nI_int 2, ← Int32.ofInt_mul, ← Int32.ofInt_sub, ← Int32.ofInt_add]
    exact dif_0 (by omega) (by omega) (by omega)
  · have h9 : zz (d + 3 * b) = zz (3 * c + a) := by
      rw [zz_add, zz_mul, zz_add, zz_mul, za, zb, zc, zd]
      exact df3
    have h8 := zz_inj h9
    rw [nI_int a, nI_int b, nI_int c, nI_int d, nI_int 3, ← Int32.ofInt_mul, ← Int32.ofInt_mul, ← Int32.ofInt_sub, ← Int32.ofInt_add, ← Int32.ofInt_sub]
    exact dif_0 (by omega) (by omega) (by omega)
