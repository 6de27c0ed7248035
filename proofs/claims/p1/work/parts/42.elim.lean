def elA (A : Nat → Nat → Nat) (c T : Nat) : Nat → Nat → Nat := rowU A c c (T + 1) (fun j => A c j * ivN (A c c) % 97)
theorem elA_at {A : Nat → Nat → Nat} {c T a b : Nat} : elA A c T a b = if a = c ∧ c ≤ b ∧ b < T + 1 then A c b * ivN (A c c) % 97 else A a b := Eq.trans rfl rfl
def elR (B : Nat → Nat → Nat) (c T x : Nat) : Nat → Nat → Nat := fun a b => if a < x ∧ a ≠ c ∧ c ≤ b ∧ b ≤ T then (B a b + 9409 - B a c * B c b) % 97 else B a b
theorem elR_at {B : Nat → Nat → Nat} {c T x a b : Nat} : elR B c T x a b = if a < x ∧ a ≠ c ∧ c ≤ b ∧ b ≤ T then (B a b + 9409 - B a c * B c b) % 97 else B a b := Eq.trans rfl rfl
def el (T c : Nat) (A : Nat → Nat → Nat) : Nat → Nat → Nat := elR (elA A c T) c T T
theorem el_at {T c : Nat} {A : Nat → Nat → Nat} {a b : Nat} : el T c A a b = elR (elA A c T) c T T a b := Eq.trans rfl rfl
def elN (T : Nat) (A : Nat → Nat → Nat) : Nat → Nat → Nat → Nat
  | 0 => A
  | k + 1 => el T k (elN T A k)
theorem elN_s {T : Nat} {A : Nat → Nat → Nat} {k : Nat} : elN T A (k + 1) = el T k (elN T A k) := Eq.trans rfl rfl
def bd (T : Nat) (A : Nat → Nat → Nat) : Prop := ∀ a b, a < T → b ≤ T → A a b < 97
theorem bd_A {T c : Nat} {A : Nat → Nat → Nat} (h : bd T A) : bd T (elA A c T) := fun a b ha hb => by
  rw [elA_at]
  split
  · exact Nat.mod_lt _ (by decide)
  · exact h a b ha hb
theorem bd_R {T c x : Nat} {A : Nat → Nat → Nat} (h : bd T A) : bd T (elR A c T x) := fun a b ha hb => by
  rw [elR_at]
  split
  · exact Nat.mod_lt _ (by decide)
  · exact h a b ha hb
theorem bd_el {T c : Nat} {A : Nat → Nat → Nat} (h : bd T A) : bd T (el T c A) := bd_R (bd_A h)
theorem bd_N {T : Nat} {A : Nat → Nat → Nat} (h : bd T A) : ∀ k, bd T (elN T A k)
  | 0 => h
  | k + 1 => bd_el (bd_N h k)
theorem zel_c {T c j : Nat} {A : Nat → Nat → Nat} (h : bd T A) (hc : c < T) (h1 : c ≤ j) (h2 : j ≤ T) : zz (el T c A c j) = zz (A c j) * iz (zz (A c c)) := by
  have l := h c c hc (by omega)
  rw [el_at, elR_at, if_neg (by omega), elA_at, if_pos (by omega), zz_mod, zz_mul, ← zz_iv, Nat.mod_eq_of_lt l]
theorem zel_i {T c i j : Nat} {A : Nat → Nat → Nat} (h : bd T A) (hc : c < T) (hi : i < T) (hic : i ≠ c) (h1 : c ≤ j) (h2 : j ≤ T) : zz (el T c A i j) = zz (A i j) - zz (A i c) * zz (el T c A c j) := by
  have l := (bd_A (c := c) h) c j hc h2
  have l2 := h i c hi (by omega)
  have e : el T c A c j = elA A c T c j := by rw [el_at, elR_at, if_neg (by omega)]
  have e1 : elA A c T i j = A i j := by rw [elA_at, if_neg (by omega)]
  have e2 : elA A c T i c = A i c := by rw [elA_at, if_neg (by omega)]
  have b : A i c * elA A c T c j ≤ 96 * 96 := Nat.mul_le_mul (by omega) (by omega)
  rw [e, el_at, elR_at, if_pos (by omega), e1, e2, zz_mod, zz_subm (by omega) (show zz 9409 = 0 from rfl), zz_mul]
theorem zN_c {T c j : Nat} {A : Nat → Nat → Nat} (h : bd T A) (hc : c < T) (h1 : c ≤ j) (h2 : j ≤ T) : zz (elN T A (c + 1) c j) = zz (elN T A c c j) * iz (zz (elN T A c c c)) := zel_c (bd_N h c) hc h1 h2
theorem zN_i {T c i j : Nat} {A : Nat → Nat → Nat} (h : bd T A) (hc : c < T) (hi : i < T) (hic : i ≠ c) (h1 : c ≤ j) (h2 : j ≤ T) : zz (elN T A (c + 1) i j) = zz (elN T A c i j) - zz (elN T A c i c) * zz (elN T A (c + 1) c j) := zel_i (bd_N h c) hc hi hic h1 h2
theorem elim3 {R : Type} [Lean.Grind.CommRing R] {u v w z y s0 s1 s2 x12 x13 x02 x03 x22 x23 g0 g1 g2 : R} (n10 : (v - u) * z = 1) (c12 : x12 = (v * v - u * u) * z) (c13 : x13 = (s1 - s0) * z) (c02 : x02 = u * u - u * x12) (c03 : x03 = s0 - u * x13) (c22 : x22 = w * w - u * u - (w - u) * x12) (c23 : x23 = s2 - s0 - (w - u) * x13) (n22 : x22 * y = 1) (d2 : g2 = x23 * y) (d1 : g1 = x13 - x12 * g2) (d0 : g0 = x03 - x02 * g2) :
    g0 + g1 * u + g2 * u * u = s0 ∧ g0 + g1 * v + g2 * v * v = s1 ∧ g0 + g1 * w + g2 * w * w = s2 := by
  have k12 : x12 = u + v := by
    clear c13 c02 c03 c22 c23 n22 d2 d1 d0
    grobner
  have k13 : (v - u) * x13 = s1 - s0 := by
    clear c12 c02 c03 c22 c23 n22 d2 d1 d0 k12
    grobner
  have k2 : g2 * x22 = x23 := by
    clear c12 c13 c02 c03 c22 c23 n10 d1 d0 k12 k13
    grobner
  clear n10 c12 c13 n22 d2
  subst k12 c02 c03 c22 c23 d1 d0
  refine ⟨?_, ?_, ?_⟩
  · clear k13 k2
    grobner
  · clear k2
    grobner
  · clear k13
    grobner
theorem gauss_ok {T : Nat} {s t : Nat → Nat} {A : Nat → Nat → Nat} (hT : 1 ≤ T ∧ T ≤ 3) (hb : bd T A) (ht : Tu T t) (h1 : ∀ i, i < T → (∀ j, j < T → A i j = pw (t i + 1) j) ∧ A i T = s (t i)) : ∀ k, k < T → zz (elN T A T k T) = cf T s t k := by
  have p0 : ∀ i, i < T → zz (A i 0) = 1 := fun i hi => by rw [(h1 i hi).1 0 (by omega)]; rfl
  have p1 : ∀ i, i < T → 1 < T → zz (A i 1) = ps t i := fun i hi h => by
    rw [(h1 i hi).1 1 h]
    show zz (1 * (t i + 1) % 97) = _
    rw [zz_mod, Nat.one_mul]; rfl
  have p2 : ∀ i, i < T → 2 < T → zz (A i 2) = ps t i * ps t i := fun i hi h => by
    rw [(h1 i hi).1 2 h]
    show zz (1 * (t i + 1) % 97 * (t i + 1) % 97) = _
    rw [zz_mod, zz_mul, zz_mod, Nat.one_mul]; rfl
  have pT : ∀ i, i < T → zz (A i T) = zz (s (t i)) := fun i hi => by rw [(h1 i hi).2]
  have i1 : iz 1 = 1 := by decide +kernel
  have b1 := bd_N hb 1
  have b2 := bd_N hb 2
  have m1 : ∀ z : Z, z * 1 = z := fun z => Fin.mul_one z
  have m2 : ∀ z : Z, 1 * z = z := fun z => Fin.one_mul z
  intro k hk
  rcases (show T = 1 ∨ T = 2 ∨ T = 3 by omega) with rfl | rfl | rfl
  · obtain rfl : k = 0 := by omega
    rw [zN_c (T := 1) (c := 0) (j := 1) hb (by decide) (by decide) (by decide)]
    show zz (A 0 1) * iz (zz (A 0 0)) = _
    rw [p0 0 (by decide), pT 0 (by decide), i1, m1]
    simp [cf, cf0]
  · have n10 := iz_mul (ht.nz (by decide : 1 < 2) (by decide : 0 < 2) (by decide))
    have a01 : zz (elN 2 A 1 0 1) = ps t 0 := by
      rw [zN_c (T := 2) (c := 0) (j := 1) hb (by decide) (by decide) (by decide)]
      show zz (A 0 1) * iz (zz (A 0 0)) = _
      rw [p0 0 (by decide), p1 0 (by decide) (by decide), i1, m1]
    have a02 : zz (elN 2 A 1 0 2) = zz (s (t 0)) := by
      rw [zN_c (T := 2) (c := 0) (j := 2) hb (by decide) (by decide) (by decide)]
      show zz (A 0 2) * iz (zz (A 0 0)) = _
      rw [p0 0 (by decide), pT 0 (by decide), i1, m1]
    have a11 : zz (elN 2 A 1 1 1) = ps t 1 - ps t 0 := by
      rw [← a01, zN_i (T := 2) (c := 0) (i := 1) (j := 1) hb (by decide) (by decide) (by decide) (by decide) (by decide)]
      show zz (A 1 1) - zz (A 1 0) * _ = _
      rw [p0 1 (by decide), p1 1 (by decide) (by decide), m2]
    have a12 : zz (elN 2 A 1 1 2) = zz (s (t 1)) - zz (s (t 0)) := by
      rw [← a02, zN_i (T := 2) (c := 0) (i := 1) (j := 2) hb (by decide) (by decide) (by decide) (by decide) (by decide)]
      show zz (A 1 2) - zz (A 1 0) * _ = _
      rw [p0 1 (by decide), pT 1 (by decide), m2]
    have d1 : zz (elN 2 A 2 1 2) = (zz (s (t 1)) - zz (s (t 0))) * iz (ps t 1 - ps t 0) := by
      rw [zN_c (T := 2) (c := 1) (j := 2) hb (by decide) (by decide) (by decide), a12, a11]
    have d0 : zz (elN 2 A 2 0 2) = zz (s (t 0)) - ps t 0 * zz (elN 2 A 2 1 2) := by
      rw [zN_i (T := 2) (c := 1) (i := 0) (j := 2) hb (by decide) (by decide) (by decide) (by decide) (by decide), a02, a01]
    have q := newton2 n10 d1 (g0 := zz (elN 2 A 2 0 2)) (by
      rw [d0]
      generalize ps t 0 = u
      generalize zz (elN 2 A 2 1 2) = v
      clear d0 d1 a12 a11 a02 a01 n10 h1 p0 p1 p2 pT i1 b1 b2 m1 m2 hb ht hT
      grobner)
    have hu := cf_uniq (s := s) (δ := fun k => if k = 0 then zz (elN 2 A 2 0 2) else if k = 1 then zz (elN 2 A 2 1 2) else 0) hT ht (fun k h1 h2 => by
      obtain rfl : k = 2 := by omega
      rfl) (fun i hi => by
      show zz (elN 2 A 2 0 2) + zz (elN 2 A 2 1 2) * ps t i + 0 * ps t i * ps t i = _
      rcases (show i = 0 ∨ i = 1 by omega) with rfl | rfl
      · rw [← q.1]
        generalize ps t 0 = u
        generalize zz (elN 2 A 2 1 2) = v
        generalize zz (elN 2 A 2 0 2) = w
        clear d0 d1 a12 a11 a02 a01 n10 h1 p0 p1 p2 pT i1 b1 b2 m1 m2 hb ht hT q
        grobner
      · rw [← q.2]
        generalize ps t 1 = u
        generalize zz (elN 2 A 2 1 2) = v
        generalize zz (elN 2 A 2 0 2) = w
        clear d0 d1 a12 a11 a02 a01 n10 h1 p0 p1 p2 pT i1 b1 b2 m1 m2 hb ht hT q
        grobner)
    rcases (show k = 0 ∨ k = 1 by omega) with rfl | rfl
    · exact hu.1
    · exact hu.2.1
  · have n10 := iz_mul (ht.nz (by decide : 1 < 3) (by decide : 0 < 3) (by decide))
    have a01 : zz (elN 3 A 1 0 1) = ps t 0 := by
      rw [zN_c (T := 3) (c := 0) (j := 1) hb (by decide) (by decide) (by decide)]
      show zz (A 0 1) * iz (zz (A 0 0)) = _
      rw [p0 0 (by decide), p1 0 (by decide) (by decide), i1, m1]
    have a02 : zz (elN 3 A 1 0 2) = ps t 0 * ps t 0 := by
      rw [zN_c (T := 3) (c := 0) (j := 2) hb (by decide) (by decide) (by decide)]
      show zz (A 0 2) * iz (zz (A 0 0)) = _
      rw [p0 0 (by decide), p2 0 (by decide) (by decide), i1, m1]
    have a03 : zz (elN 3 A 1 0 3) = zz (s (t 0)) := by
      rw [zN_c (T := 3) (c := 0) (j := 3) hb (by decide) (by decide) (by decide)]
      show zz (A 0 3) * iz (zz (A 0 0)) = _
      rw [p0 0 (by decide), pT 0 (by decide), i1, m1]
    have a11 : zz (elN 3 A 1 1 1) = ps t 1 - ps t 0 := by
      rw [← a01, zN_i (T := 3) (c := 0) (i := 1) (j := 1) hb (by decide) (by decide) (by decide) (by decide) (by decide)]
      show zz (A 1 1) - zz (A 1 0) * _ = _
      rw [p0 1 (by decide), p1 1 (by decide) (by decide), m2]
    have a12 : zz (elN 3 A 1 1 2) = ps t 1 * ps t 1 - ps t 0 * ps t 0 := by
      rw [← a02, zN_i (T := 3) (c := 0) (i := 1) (j := 2) hb (by decide) (by decide) (by decide) (by decide) (by decide)]
      show zz (A 1 2) - zz (A 1 0) * _ = _
      rw [p0 1 (by decide), p2 1 (by decide) (by decide), m2]
    have a13 : zz (elN 3 A 1 1 3) = zz (s (t 1)) - zz (s (t 0)) := by
      rw [← a03, zN_i (T := 3) (c := 0) (i := 1) (j := 3) hb (by decide) (by decide) (by decide) (by decide) (by decide)]
      show zz (A 1 3) - zz (A 1 0) * _ = _
      rw [p0 1 (by decide), pT 1 (by decide), m2]
    have a21 : zz (elN 3 A 1 2 1) = ps t 2 - ps t 0 := by
      rw [← a01, zN_i (T := 3) (c := 0) (i := 2) (j := 1) hb (by decide) (by decide) (by decide) (by decide) (by decide)]
      show zz (A 2 1) - zz (A 2 0) * _ = _
      rw [p0 2 (by decide), p1 2 (by decide) (by decide), m2]
    have a22 : zz (elN 3 A 1 2 2) = ps t 2 * ps t 2 - ps t 0 * ps t 0 := by
      rw [← a02, zN_i (T := 3) (c := 0) (i := 2) (j := 2) hb (by decide) (by decide) (by decide) (by decide) (by decide)]
      show zz (A 2 2) - zz (A 2 0) * _ = _
      rw [p0 2 (by decide), p2 2 (by decide) (by decide), m2]
    have a23 : zz (elN 3 A 1 2 3) = zz (s (t 2)) - zz (s (t 0)) := by
      rw [← a03, zN_i (T := 3) (c := 0) (i := 2) (j := 3) hb (by decide) (by decide) (by decide) (by decide) (by decide)]
      show zz (A 2 3) - zz (A 2 0) * _ = _
      rw [p0 2 (by decide), pT 2 (by decide), m2]
    have c12 : zz (elN 3 A 2 1 2) = (ps t 1 * ps t 1 - ps t 0 * ps t 0) * iz (ps t 1 - ps t 0) := by
      rw [zN_c (T := 3) (c := 1) (j := 2) hb (by decide) (by decide) (by decide), a12, a11]
    have c13 : zz (elN 3 A 2 1 3) = (zz (s (t 1)) - zz (s (t 0))) * iz (ps t 1 - ps t 0) := by
      rw [zN_c (T := 3) (c := 1) (j := 3) hb (by decide) (by decide) (by decide), a13, a11]
    have c02 : zz (elN 3 A 2 0 2) = ps t 0 * ps t 0 - ps t 0 * zz (elN 3 A 2 1 2) := by
      rw [zN_i (T := 3) (c := 1) (i := 0) (j := 2) hb (by decide) (by decide) (by decide) (by decide) (by decide), a02, a01]
    have c03 : zz (elN 3 A 2 0 3) = zz (s (t 0)) - ps t 0 * zz (elN 3 A 2 1 3) := by
      rw [zN_i (T := 3) (c := 1) (i := 0) (j := 3) hb (by decide) (by decide) (by decide) (by decide) (by decide), a03, a01]
    have c22 : zz (elN 3 A 2 2 2) = ps t 2 * ps t 2 - ps t 0 * ps t 0 - (ps t 2 - ps t 0) * zz (elN 3 A 2 1 2) := by
      rw [zN_i (T := 3) (c := 1) (i := 2) (j := 2) hb (by decide) (by decide) (by decide) (by decide) (by decide), a22, a21]
    have c23 : zz (elN 3 A 2 2 3) = zz (s (t 2)) - zz (s (t 0)) - (ps t 2 - ps t 0) * zz (elN 3 A 2 1 3) := by
      rw [zN_i (T := 3) (c := 1) (i := 2) (j := 3) hb (by decide) (by decide) (by decide) (by decide) (by decide), a23, a21]
    have d2 : zz (elN 3 A 3 2 3) = zz (elN 3 A 2 2 3) * iz (zz (elN 3 A 2 2 2)) := by
      rw [zN_c (T := 3) (c := 2) (j := 3) hb (by decide) (by decide) (by decide)]
    have d1 : zz (elN 3 A 3 1 3) = zz (elN 3 A 2 1 3) - zz (elN 3 A 2 1 2) * zz (elN 3 A 3 2 3) := by
      rw [zN_i (T := 3) (c := 2) (i := 1) (j := 3) hb (by decide) (by decide) (by decide) (by decide) (by decide)]
    have d0 : zz (elN 3 A 3 0 3) = zz (elN 3 A 2 0 3) - zz (elN 3 A 2 0 2) * zz (elN 3 A 3 2 3) := by
      rw [zN_i (T := 3) (c := 2) (i := 0) (j := 3) hb (by decide) (by decide) (by decide) (by decide) (by decide)]
    have n22 : zz (elN 3 A 2 2 2) ≠ 0 := by
      have e : zz (elN 3 A 2 2 2) = (ps t 2 - ps t 0) * (ps t 2 - ps t 1) := by
        rw [c22, c12]
        generalize ps t 0 = u at *
        generalize ps t 1 = v at *
        generalize ps t 2 = w at *
        generalize iz (v - u) = z at *
        clear d0 d1 d2 c12 c13 c02 c03 c22 c23 a01 a02 a03 a11 a12 a13 a21 a22 a23 h1 p0 p1 p2 pT i1 b1 b2 m1 m2 hb ht hT
        grobner
      rw [e]
      exact nz_mul (ht.nz (by decide) (by decide) (by decide)) (ht.nz (by decide) (by decide) (by decide))
    have n22' := iz_mul n22
    have q := elim3 n10 c12 c13 c02 c03 c22 c23 n22' d2 d1 d0
    have hu := cf_uniq (s := s) (δ := fun k => if k = 0 then zz (elN 3 A 3 0 3) else if k = 1 then zz (elN 3 A 3 1 3) else zz (elN 3 A 3 2 3)) hT ht (fun k h1 h2 => by omega) (fun i hi => by
      rcases (show i = 0 ∨ i = 1 ∨ i = 2 by omega) with rfl | rfl | rfl
      · exact q.1
      · exact q.2.1
      · exact q.2.2)
    rcases (show k = 0 ∨ k = 1 ∨ k = 2 by omega) with rfl | rfl | rfl
    · exact hu.1
    · exact hu.2.1
    · exact hu.2.2
