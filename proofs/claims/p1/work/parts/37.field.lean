/-! ARITHMETIC MODULO 97 -/
abbrev Z : Type := Fin 97
def zz (n : Nat) : Z := Fin.ofNat 97 n
theorem zz_val (n : Nat) : (zz n).val = n % 97 := rfl
theorem zz_self (v : Z) : zz v.val = v := Fin.ext (Nat.mod_eq_of_lt v.isLt)
theorem zz_lt (v : Z) : v.val < 97 := v.isLt
theorem zz_mod (n : Nat) : zz (n % 97) = zz n := Fin.ext (Nat.mod_mod n 97)
theorem zz_add (a b : Nat) : zz (a + b) = zz a + zz b := Fin.ext (Nat.add_mod a b 97)
theorem zz_mul (a b : Nat) : zz (a * b) = zz a * zz b := Fin.ext (Nat.mul_mod a b 97)
theorem zz_0 : zz 0 = 0 := rfl
theorem zz_1 : zz 1 = 1 := rfl
theorem zz_97 : zz 97 = 0 := rfl
theorem zz_eq {a b : Nat} (ha : a < 97) (hb : b < 97) (h : zz a = zz b) : a = b := by
  have h1 : a % 97 = b % 97 := congrArg Fin.val h
  rw [Nat.mod_eq_of_lt ha, Nat.mod_eq_of_lt hb] at h1
  exact h1
theorem zz_sub {a b c : Nat} (h : b ≤ a) (hc : zz c = 0) (e : Nat) (he : a + c = e) : zz (e - b) = zz a - zz b := by
  subst he
  have h1 : zz (a + c - b) + zz b = zz a + zz c := by rw [← zz_add, ← zz_add]; congr 1; omega
  rw [hc] at h1
  generalize zz (a + c - b) = u at h1 ⊢
  generalize zz a = v at h1 ⊢
  generalize zz b = w at h1 ⊢
  grobner
theorem zz_subm {a b m : Nat} (h : b ≤ a + m) (hm : zz m = 0) : zz (a + m - b) = zz a - zz b := by
  have h1 : zz (a + m - b) + zz b = zz a + zz m := by rw [← zz_add, ← zz_add]; congr 1; omega
  rw [hm] at h1
  generalize zz (a + m - b) = u at h1 ⊢
  generalize zz a = v at h1 ⊢
  generalize zz b = w at h1 ⊢
  grobner
def ivN (a : Nat) : Nat := (mInv.getD a 0).toNatClampNeg
theorem ivN_all : ∀ a : Fin 97, ivN a < 97 ∧ mInv.getD a 0 = Int32.ofNat (ivN a) ∧ (a.val ≠ 0 → (a.val * ivN a) % 97 = 1) := by decide +kernel
theorem ivN_lt {a : Nat} (h : a < 97) : ivN a < 97 := (ivN_all ⟨a, h⟩).1
theorem ivN_I {a : Nat} (h : a < 97) : mInv.getD a 0 = Int32.ofNat (ivN a) := (ivN_all ⟨a, h⟩).2.1
theorem ivN_mul {a : Nat} (h : a < 97) (h0 : a ≠ 0) : (a * ivN a) % 97 = 1 := (ivN_all ⟨a, h⟩).2.2 h0
theorem ivN_first : ∀ a : Fin 97, a.val ≠ 0 → 1 ≤ ivN a ∧ ∀ x : Fin 97, x.val < ivN a → (a.val * x.val) % 97 ≠ 1 := by decide +kernel
def iz (z : Z) : Z := zz (ivN z.val)
theorem iz_mul {z : Z} (h : z ≠ 0) : z * iz z = 1 := by
  have h1 := ivN_mul z.isLt (fun q => h (Fin.ext q))
  unfold iz
  have h2 : zz (z.val * ivN z.val) = zz 1 := by rw [← zz_mod, h1]
  rw [zz_mul, zz_self] at h2
  exact h2
theorem zz_iv (a : Nat) : zz (ivN (a % 97)) = iz (zz a) := by
  unfold iz
  rw [zz_val]
theorem nz_mul {a b : Z} (ha : a ≠ 0) (hb : b ≠ 0) : a * b ≠ 0 := by
  intro h
  have h1 := iz_mul ha
  have h2 := iz_mul hb
  have h3 : (1 : Z) = 0 := by
    generalize iz a = u at *
    generalize iz b = v at *
    clear ha hb
    grobner
  exact absurd h3 (by decide)
theorem nz_sub {a b : Nat} (ha : a < 97) (hb : b < 97) (h : a ≠ b) : zz a - zz b ≠ 0 := by
  intro q
  refine h (zz_eq ha hb ?_)
  generalize zz a = u at q ⊢
  generalize zz b = v at q ⊢
  grobner
theorem newton2 {R : Type} [Lean.Grind.CommRing R] {p0 p1 s0 s1 a g0 g1 : R} (h10 : (p1 - p0) * a = 1) (e1 : g1 = (s1 - s0) * a) (e0 : g0 = s0 - g1 * p0) : g0 + g1 * p0 = s0 ∧ g0 + g1 * p1 = s1 := by
  refine ⟨by grobner, by grobner⟩
theorem uniq2 {R : Type} [Lean.Grind.CommRing R] {p0 p1 g0 g1 h0 h1 a : R} (h10 : (p1 - p0) * a = 1) (e0 : g0 + g1 * p0 = h0 + h1 * p0) (e1 : g0 + g1 * p1 = h0 + h1 * p1) : g0 = h0 ∧ g1 = h1 := by
  have q1 : g1 = h1 := by grobner
  subst q1
  exact ⟨by grobner, rfl⟩
theorem newton3 {R : Type} [Lean.Grind.CommRing R] {p0 p1 p2 s0 s1 s2 a b c : R} (h10 : (p1 - p0) * a = 1) (h20 : (p2 - p0) * b = 1) (h21 : (p2 - p1) * c = 1)
    {g0 g1 g2 : R} (e2 : g2 = ((s2 - s0) * b - (s1 - s0) * a) * c) (e1 : g1 = (s1 - s0) * a - g2 * (p0 + p1)) (e0 : g0 = s0 - g1 * p0 - g2 * p0 * p0) :
    g0 + g1 * p0 + g2 * p0 * p0 = s0 ∧ g0 + g1 * p1 + g2 * p1 * p1 = s1 ∧ g0 + g1 * p2 + g2 * p2 * p2 = s2 := by
  refine ⟨by grobner, by grobner, by grobner⟩
theorem uniq3 {R : Type} [Lean.Grind.CommRing R] {p0 p1 p2 g0 g1 g2 h0 h1 h2 a b c : R} (h10 : (p1 - p0) * a = 1) (h20 : (p2 - p0) * b = 1) (h21 : (p2 - p1) * c = 1)
    (e0 : g0 + g1 * p0 + g2 * p0 * p0 = h0 + h1 * p0 + h2 * p0 * p0) (e1 : g0 + g1 * p1 + g2 * p1 * p1 = h0 + h1 * p1 + h2 * p1 * p1) (e2 : g0 + g1 * p2 + g2 * p2 * p2 = h0 + h1 * p2 + h2 * p2 * p2) :
    g0 = h0 ∧ g1 = h1 ∧ g2 = h2 := by
  have q2 : g2 = h2 := by grobner
  subst q2
  have q1 : g1 = h1 := by grobner
  subst q1
  exact ⟨by grobner, rfl, rfl⟩
/-- one inverse a point -/
theorem lagC2 {R : Type} [Lean.Grind.CommRing R] {p0 p1 s0 s1 x u v g0 g1 : R} (h0 : (p0 - p1) * u = 1) (h1 : (p1 - p0) * v = 1) (e0 : g0 + g1 * p0 = s0) (e1 : g0 + g1 * p1 = s1) : s0 * ((x - p1) * u) + s1 * ((x - p0) * v) = g0 + g1 * x := by
  grobner
theorem lagC3 {R : Type} [Lean.Grind.CommRing R] {p0 p1 p2 s0 s1 s2 x u v w g0 g1 g2 : R} (h0 : (p0 - p1) * (p0 - p2) * u = 1) (h1 : (p1 - p0) * (p1 - p2) * v = 1) (h2 : (p2 - p0) * (p2 - p1) * w = 1)
    (e0 : g0 + g1 * p0 + g2 * p0 * p0 = s0) (e1 : g0 + g1 * p1 + g2 * p1 * p1 = s1) (e2 : g0 + g1 * p2 + g2 * p2 * p2 = s2) :
    s0 * ((x - p1) * (x - p2) * u) + s1 * ((x - p0) * (x - p2) * v) + s2 * ((x - p0) * (x - p1) * w) = g0 + g1 * x + g2 * x * x := by
  subst e0 e1 e2
  grobner
/-- one inverse a factor -/
theorem lagM3 {R : Type} [Lean.Grind.CommRing R] {p0 p1 p2 s0 s1 s2 x a a' b b' c c' g0 g1 g2 : R} (h01 : (p0 - p1) * a = 1) (h02 : (p0 - p2) * a' = 1) (h10 : (p1 - p0) * b = 1) (h12 : (p1 - p2) * b' = 1) (h20 : (p2 - p0) * c = 1) (h21 : (p2 - p1) * c' = 1)
    (e0 : g0 + g1 * p0 + g2 * p0 * p0 = s0) (e1 : g0 + g1 * p1 + g2 * p1 * p1 = s1) (e2 : g0 + g1 * p2 + g2 * p2 * p2 = s2) :
    s0 * (x - p1) * a * (x - p2) * a' + s1 * (x - p0) * b * (x - p2) * b' + s2 * (x - p0) * c * (x - p1) * c' = g0 + g1 * x + g2 * x * x := by
  have q := lagC3 (x := x) (u := a * a') (v := b * b') (w := c * c') (p0 := p0) (p1 := p1) (p2 := p2) (by grobner) (by grobner) (by grobner) e0 e1 e2
  rw [← q]
  clear q e0 e1 e2 h01 h02 h10 h12 h20 h21
  grobner
