/-! THE CURVE THROUGH T SHARES. s: the share of a holder; t: the holders -/
def ps (t : Nat → Nat) (i : Nat) : Z := zz (t i + 1)
def ev (γ : Nat → Z) (x : Z) : Z := γ 0 + γ 1 * x + γ 2 * x * x
def cf2 (s t : Nat → Nat) : Z := ((zz (s (t 2)) - zz (s (t 0))) * iz (ps t 2 - ps t 0) - (zz (s (t 1)) - zz (s (t 0))) * iz (ps t 1 - ps t 0)) * iz (ps t 2 - ps t 1)
def cf1 (T : Nat) (s t : Nat → Nat) : Z := if T = 2 then (zz (s (t 1)) - zz (s (t 0))) * iz (ps t 1 - ps t 0) else (zz (s (t 1)) - zz (s (t 0))) * iz (ps t 1 - ps t 0) - cf2 s t * (ps t 0 + ps t 1)
def cf0 (T : Nat) (s t : Nat → Nat) : Z := if T = 1 then zz (s (t 0)) else if T = 2 then zz (s (t 0)) - cf1 T s t * ps t 0 else zz (s (t 0)) - cf1 T s t * ps t 0 - cf2 s t * ps t 0 * ps t 0
def cf (T : Nat) (s t : Nat → Nat) (k : Nat) : Z := if T ≤ k then 0 else if k = 0 then cf0 T s t else if k = 1 then cf1 T s t else cf2 s t
/-- T holders, no two the same -/
def Tu (T : Nat) (t : Nat → Nat) : Prop := (∀ i, i < T → t i < 8) ∧ ∀ i j, i < j → j < T → t i ≠ t j
theorem Tu.nz {T : Nat} {t : Nat → Nat} (h : Tu T t) {i j : Nat} (hi : i < T) (hj : j < T) (hij : i ≠ j) : ps t i - ps t j ≠ 0 := by
  have h1 := h.1 i hi
  have h2 := h.1 j hj
  refine nz_sub (by omega) (by omega) fun q => ?_
  rcases Nat.lt_or_gt_of_ne hij with h3 | h3
  · exact h.2 i j h3 hj (by omega)
  · exact h.2 j i h3 hi (by omega)
theorem cf_deg {T : Nat} {s t : Nat → Nat} {k : Nat} (h : T ≤ k) : cf T s t k = 0 := if_pos h
theorem cf_on {T : Nat} {s t : Nat → Nat} (hT : 1 ≤ T ∧ T ≤ 3) (ht : Tu T t) : ∀ i, i < T → ev (cf T s t) (ps t i) = zz (s (t i)) := by
  intro i hi
  rcases (show T = 1 ∨ T = 2 ∨ T = 3 by omega) with rfl | rfl | rfl
  · obtain rfl : i = 0 := by omega
    have e0 : cf 1 s t 0 = zz (s (t 0)) := by simp [cf, cf0]
    unfold ev
    rw [cf_deg (by decide : 1 ≤ 1), cf_deg (by decide : 1 ≤ 2), e0]
    generalize zz (s (t 0)) = a
    generalize ps t 0 = b
    grobner
  · have h10 := iz_mul (ht.nz (by decide : 1 < 2) (by decide : 0 < 2) (by decide))
    have e1 : cf 2 s t 1 = (zz (s (t 1)) - zz (s (t 0))) * iz (ps t 1 - ps t 0) := by simp [cf, cf1]
    have e0 : cf 2 s t 0 = zz (s (t 0)) - cf 2 s t 1 * ps t 0 := by simp [cf, cf0]
    have e2 : cf 2 s t 2 = 0 := cf_deg (by decide)
    unfold ev
    rw [e2]
    generalize cf 2 s t 0 = g0 at *
    generalize cf 2 s t 1 = g1 at *
    obtain ⟨q0, q1⟩ := newton2 h10 e1 e0
    rcases (show i = 0 ∨ i = 1 by omega) with rfl | rfl
    · rw [← q0]; clear q0 q1 e0 e1 h10 ht
      generalize ps t 0 = b
      grobner
    · rw [← q1]; clear q0 q1 e0 e1 h10 ht
      generalize ps t 1 = b
      grobner
  · have h10 := iz_mul (ht.nz (by decide : 1 < 3) (by decide : 0 < 3) (by decide))
    have h20 := iz_mul (ht.nz (by decide : 2 < 3) (by decide : 0 < 3) (by decide))
    have h21 := iz_mul (ht.nz (by decide : 2 < 3) (by decide : 1 < 3) (by decide))
    have e2 : cf 3 s t 2 = ((zz (s (t 2)) - zz (s (t 0))) * iz (ps t 2 - ps t 0) - (zz (s (t 1)) - zz (s (t 0))) * iz (ps t 1 - ps t 0)) * iz (ps t 2 - ps t 1) := by simp [cf, cf2]
    have e1 : cf 3 s t 1 = (zz (s (t 1)) - zz (s (t 0))) * iz (ps t 1 - ps t 0) - cf 3 s t 2 * (ps t 0 + ps t 1) := by simp [cf, cf1]
    have e0 : cf 3 s t 0 = zz (s (t 0)) - cf 3 s t 1 * ps t 0 - cf 3 s t 2 * ps t 0 * ps t 0 := by simp [cf, cf0]
    unfold ev
    obtain ⟨q0, q1, q2⟩ := newton3 h10 h20 h21 e2 e1 e0
    rcases (show i = 0 ∨ i = 1 ∨ i = 2 by omega) with rfl | rfl | rfl
    · exact q0
    · exact q1
    · exact q2
theorem cf_uniq {T : Nat} {s t : Nat → Nat} {δ : Nat → Z} (hT : 1 ≤ T ∧ T ≤ 3) (ht : Tu T t) (hd : ∀ k, T ≤ k → k < 3 → δ k = 0) (hp : ∀ i, i < T → ev δ (ps t i) = zz (s (t i))) : δ 0 = cf T s t 0 ∧ δ 1 = cf T s t 1 ∧ δ 2 = cf T s t 2 := by
  have hq := cf_on (s := s) hT ht
  have hh := fun i hi => (hp i hi).trans (hq i hi).symm
  unfold ev at hh
  clear hp hq
  rcases (show T = 1 ∨ T = 2 ∨ T = 3 by omega) with rfl | rfl | rfl
  · have h0 := hh 0 (by decide)
    rw [hd 1 (by decide) (by decide), hd 2 (by decide) (by decide), cf_deg (by decide : 1 ≤ 1), cf_deg (by decide : 1 ≤ 2)] at h0 ⊢
    refine ⟨?_, rfl, rfl⟩
    generalize cf 1 s t 0 = a at *
    generalize δ 0 = b at *
    generalize ps t 0 = c at *
    clear hh hd ht hT
    grobner
  · have h0 := hh 0 (by decide)
    have h1 := hh 1 (by decide)
    rw [hd 2 (by decide) (by decide), cf_deg (by decide : 2 ≤ 2)] at h0 h1 ⊢
    have h10 := iz_mul (ht.nz (by decide : 1 < 2) (by decide : 0 < 2) (by decide))
    have q := uniq2 (g0 := δ 0) (g1 := δ 1) (h0 := cf 2 s t 0) (h1 := cf 2 s t 1) h10 (by
      clear hh hd ht hT h1 h10
      generalize cf 2 s t 0 = a at *
      generalize cf 2 s t 1 = a' at *
      generalize δ 0 = b at *
      generalize δ 1 = b' at *
      generalize ps t 0 = c at *
      grobner) (by
      clear hh hd ht hT h0 h10
      generalize cf 2 s t 0 = a at *
      generalize cf 2 s t 1 = a' at *
      generalize δ 0 = b at *
      generalize δ 1 = b' at *
      generalize ps t 1 = c at *
      grobner)
    exact ⟨q.1, q.2, rfl⟩
  · have h10 := iz_mul (ht.nz (by decide : 1 < 3) (by decide : 0 < 3) (by decide))
    have h20 := iz_mul (ht.nz (by decide : 2 < 3) (by decide : 0 < 3) (by decide))
    have h21 := iz_mul (ht.nz (by decide : 2 < 3) (by decide : 1 < 3) (by decide))
    exact uniq3 h10 h20 h21 (hh 0 (by decide)) (hh 1 (by decide)) (hh 2 (by decide))
/-- the value at x -/
def thr (T : Nat) (s t : Nat → Nat) (x : Nat) : Nat := (ev (cf T s t) (zz x)).val
theorem thr_lt {T : Nat} {s t : Nat → Nat} {x : Nat} : thr T s t x < 97 := (ev (cf T s t) (zz x)).isLt
theorem zz_thr {T : Nat} {s t : Nat → Nat} {x : Nat} : zz (thr T s t x) = ev (cf T s t) (zz x) := zz_self _
theorem ev_cg {γ δ : Nat → Z} (h : δ 0 = γ 0 ∧ δ 1 = γ 1 ∧ δ 2 = γ 2) (x : Z) : ev δ x = ev γ x := by
  unfold ev
  rw [h.1, h.2.1, h.2.2]
/-- the class's way -/
def pn (x : Nat) (t : Nat → Nat) (i : Nat) : Nat → Nat
  | 0 => 1
  | k + 1 => if k = i then pn x t i k else pn x t i k * (x + 96 - t k) % 97
def pd (t : Nat → Nat) (i : Nat) : Nat → Nat
  | 0 => 1
  | k + 1 => if k = i then pd t i k else pd t i k * (t i + 97 - t k) % 97
def qC (T x : Nat) (t : Nat → Nat) (i : Nat) : Nat := pn x t i T * ivN (pd t i T) % 97
def smC (T x : Nat) (s t : Nat → Nat) : Nat → Nat
  | 0 => 0
  | k + 1 => smC T x s t k + s (t k) * qC T x t k
/-- the model's way -/
def tmM (x : Nat) (s t : Nat → Nat) (i : Nat) : Nat → Nat
  | 0 => s (t i)
  | k + 1 => if k = i then tmM x s t i k else tmM x s t i k * ((x + 193 - t k) % 97) % 97 * ivN ((t i + 97 - t k) % 97) % 97
def smM (T x : Nat) (s t : Nat → Nat) : Nat → Nat
  | 0 => 0
  | k + 1 => (smM T x s t k + tmM x s t k T) % 97
theorem zz_fac {x : Nat} {t : Nat → Nat} {k : Nat} (h : t k < 8) : zz (x + 96 - t k) = zz x - ps t k := by
  have := zz_subm (a := x) (b := t k + 1) (m := 97) (by omega) zz_97
  rw [← show x + 97 - (t k + 1) = x + 96 - t k by omega]
  exact this
theorem zz_facM {x : Nat} {t : Nat → Nat} {k : Nat} (h : t k < 8) : zz (x + 193 - t k) = zz x - ps t k := by
  have := zz_subm (a := x) (b := t k + 1) (m := 194) (by omega) rfl
  rw [← show x + 194 - (t k + 1) = x + 193 - t k by omega]
  exact this
theorem zz_den {t : Nat → Nat} {i k : Nat} (h : t k < 8) : zz (t i + 97 - t k) = ps t i - ps t k := by
  have := zz_subm (a := t i + 1) (b := t k + 1) (m := 97) (by omega) zz_97
  rw [← show t i + 1 + 97 - (t k + 1) = t i + 97 - t k by omega]
  exact this
theorem pn_lt {x : Nat} {t : Nat → Nat} {i : Nat} : ∀ k, pn x t i k < 97
  | 0 => by show 1 < 97; decide
  | k + 1 => by
    unfold pn
    split
    · exact pn_lt k
    · exact Nat.mod_lt _ (by decide)
theorem pd_lt {t : Nat → Nat} {i : Nat} : ∀ k, pd t i k < 97
  | 0 => by show 1 < 97; decide
  | k + 1 => by
    unfold pd
    split
    · exact pd_lt k
    · exact Nat.mod_lt _ (by decide)
theorem qC_lt {T x : Nat} {t : Nat → Nat} {i : Nat} : qC T x t i < 97 := Nat.mod_lt _ (by decide)
theorem zz_qC {T x : Nat} {t : Nat → Nat} {i : Nat} : zz (qC T x t i) = zz (pn x t i T) * iz (zz (pd t i T)) := by
  unfold qC
  rw [zz_mod, zz_mul, ← zz_iv, Nat.mod_eq_of_lt (pd_lt T)]
theorem thrC {T x : Nat} {s t : Nat → Nat} (hT : 1 ≤ T ∧ T ≤ 3) (ht : Tu T t) : smC T x s t T % 97 = thr T s t x := by
  refine zz_eq (Nat.mod_lt _ (by decide)) thr_lt ?_
  rw [zz_mod, zz_thr]
  have hq := cf_on (s := s) hT ht
  unfold ev at hq ⊢
  rcases (show T = 1 ∨ T = 2 ∨ T = 3 by omega) with rfl | rfl | rfl
  · have h0 := hq 0 (by decide)
    rw [cf_deg (by decide : 1 ≤ 1), cf_deg (by decide : 1 ≤ 2)] at h0 ⊢
    have e : zz (smC 1 x s t 1) = zz (s (t 0)) * iz 1 := by
      show zz (0 + s (t 0) * qC 1 x t 0) = _
      rw [Nat.zero_add, zz_mul, zz_qC, show pn x t 0 1 = 1 from rfl, show pd t 0 1 = 1 from rfl, zz_1]
      generalize iz 1 = u
      generalize zz (s (t 0)) = v
      clear hq ht hT h0
      grobner
    have i1 : iz 1 = 1 := by decide +kernel
    rw [e, i1]
    generalize cf 1 s t 0 = a at *
    generalize zz (s (t 0)) = b at *
    generalize zz x = d at *
    generalize ps t 0 = c at *
    clear hq ht hT e i1
    grobner
  · have h0 := hq 0 (by decide)
    have h1 := hq 1 (by decide)
    rw [cf_deg (by decide : 2 ≤ 2)] at h0 h1 ⊢
    have f := fun k (hk : k < 2) => zz_fac (x := x) (ht.1 k hk)
    have d := fun i k (hk : k < 2) => zz_den (i := i) (ht.1 k hk)
    have q0 : zz (qC 2 x t 0) = (zz x - ps t 1) * iz (ps t 0 - ps t 1) := by
      rw [zz_qC]; simp [pn, pd, zz_mod, f, d]
    have q1 : zz (qC 2 x t 1) = (zz x - ps t 0) * iz (ps t 1 - ps t 0) := by
      rw [zz_qC]; simp [pn, pd, zz_mod, f, d]
    have e : zz (smC 2 x s t 2) = zz (s (t 0)) * ((zz x - ps t 1) * iz (ps t 0 - ps t 1)) + zz (s (t 1)) * ((zz x - ps t 0) * iz (ps t 1 - ps t 0)) := by
      simp [smC, zz_add, zz_mul, q0, q1]
    rw [e, lagC2 (g0 := cf 2 s t 0) (g1 := cf 2 s t 1) (iz_mul (ht.nz (by decide) (by decide) (by decide))) (iz_mul (ht.nz (by decide) (by decide) (by decide))) ?_ ?_]
    · generalize cf 2 s t 0 = a
      generalize cf 2 s t 1 = b
      generalize zz x = c
      clear hq ht hT e h0 h1 q0 q1 f d
      grobner
    · rw [← h0]
      generalize cf 2 s t 0 = a
      generalize cf 2 s t 1 = b
      generalize ps t 0 = c
      clear hq ht hT e h0 h1 q0 q1 f d
      grobner
    · rw [← h1]
      generalize cf 2 s t 0 = a
      generalize cf 2 s t 1 = b
      generalize ps t 1 = c
      clear hq ht hT e h0 h1 q0 q1 f d
      grobner
  · have h0 := hq 0 (by decide)
    have h1 := hq 1 (by decide)
    have h2 := hq 2 (by decide)
    have f := fun k (hk : k < 3) => zz_fac (x := x) (ht.1 k hk)
    have d := fun i k (hk : k < 3) => zz_den (i := i) (ht.1 k hk)
    have q0 : zz (qC 3 x t 0) = (zz x - ps t 1) * (zz x - ps t 2) * iz ((ps t 0 - ps t 1) * (ps t 0 - ps t 2)) := by
      rw [zz_qC]; simp [pn, pd, zz_mod, zz_mul, f, d]
    have q1 : zz (qC 3 x t 1) = (zz x - ps t 0) * (zz x - ps t 2) * iz ((ps t 1 - ps t 0) * (ps t 1 - ps t 2)) := by
      rw [zz_qC]; simp [pn, pd, zz_mod, zz_mul, f, d]
    have q2 : zz (qC 3 x t 2) = (zz x - ps t 0) * (zz x - ps t 1) * iz ((ps t 2 - ps t 0) * (ps t 2 - ps t 1)) := by
      rw [zz_qC]; simp [pn, pd, zz_mod, zz_mul, f, d]
    have e : zz (smC 3 x s t 3) = zz (s (t 0)) * ((zz x - ps t 1) * (zz x - ps t 2) * iz ((ps t 0 - ps t 1) * (ps t 0 - ps t 2))) + zz (s (t 1)) * ((zz x - ps t 0) * (zz x - ps t 2) * iz ((ps t 1 - ps t 0) * (ps t 1 - ps t 2))) + zz (s (t 2)) * ((zz x - ps t 0) * (zz x - ps t 1) * iz ((ps t 2 - ps t 0) * (ps t 2 - ps t 1))) := by
      simp [smC, zz_add, zz_mul, q0, q1, q2]
    rw [e]
    have n := fun {i j : Nat} => ht.nz (i := i) (j := j)
    exact lagC3 (iz_mul (nz_mul (n (by decide) (by decide) (by decide)) (n (by decide) (by decide) (by decide)))) (iz_mul (nz_mul (n (by decide) (by decide) (by decide)) (n (by decide) (by decide) (by decide)))) (iz_mul (nz_mul (n (by decide) (by decide) (by decide)) (n (by decide) (by decide) (by decide)))) h0 h1 h2
theorem smM_lt {T x : Nat} {s t : Nat → Nat} : ∀ k, smM T x s t k < 97
  | 0 => by show 0 < 97; decide
  | k + 1 => Nat.mod_lt _ (by decide)
theorem zz_tm {x : Nat} {s t : Nat → Nat} {i k : Nat} (hk : t k < 8) (hi : k ≠ i) : zz (tmM x s t i (k + 1)) = zz (tmM x s t i k) * (zz x - ps t k) * iz (ps t i - ps t k) := by
  show zz (if k = i then _ else _) = _
  rw [if_neg hi, zz_mod, zz_mul, zz_mod, zz_mul, zz_mod, zz_facM hk, zz_iv, zz_den hk]
theorem zz_tmi {x : Nat} {s t : Nat → Nat} {i : Nat} : zz (tmM x s t i (i + 1)) = zz (tmM x s t i i) := by
  show zz (if i = i then _ else _) = _
  rw [if_pos rfl]
theorem zz_sm {T x : Nat} {s t : Nat → Nat} {k : Nat} : zz (smM T x s t (k + 1)) = zz (smM T x s t k) + zz (tmM x s t k T) := by
  show zz ((smM T x s t k + tmM x s t k T) % 97) = _
  rw [zz_mod, zz_add]
theorem thrM {T x : Nat} {s t : Nat → Nat} (hT : 1 ≤ T ∧ T ≤ 3) (ht : Tu T t) : smM T x s t T = thr T s t x := by
  refine zz_eq (smM_lt T) thr_lt ?_
  rw [zz_thr]
  have hq := cf_on (s := s) hT ht
  have z0 : ∀ T, zz (smM T x s t 0) = 0 := fun _ => rfl
  have t0 : ∀ i, zz (tmM x s t i 0) = zz (s (t i)) := fun _ => rfl
  unfold ev at hq ⊢
  rcases (show T = 1 ∨ T = 2 ∨ T = 3 by omega) with rfl | rfl | rfl
  · have h0 := hq 0 (by decide)
    rw [cf_deg (by decide : 1 ≤ 1), cf_deg (by decide : 1 ≤ 2)] at h0 ⊢
    have a0 : zz (smM 1 x s t 1) = zz (smM 1 x s t 0) + zz (tmM x s t 0 1) := zz_sm
    have b0 : zz (tmM x s t 0 1) = zz (tmM x s t 0 0) := zz_tmi
    rw [a0, b0, z0, t0]
    generalize cf 1 s t 0 = a at *
    generalize zz (s (t 0)) = b at *
    generalize zz x = d at *
    generalize ps t 0 = c at *
    clear hq ht hT t0 z0
    grobner
  · have h0 := hq 0 (by decide)
    have h1 := hq 1 (by decide)
    rw [cf_deg (by decide : 2 ≤ 2)] at h0 h1 ⊢
    have l0 := ht.1 0 (by decide)
    have l1 := ht.1 1 (by decide)
    have a1 : zz (smM 2 x s t 2) = zz (smM 2 x s t 1) + zz (tmM x s t 1 2) := zz_sm
    have a0 : zz (smM 2 x s t 1) = zz (smM 2 x s t 0) + zz (tmM x s t 0 2) := zz_sm
    have b01 : zz (tmM x s t 0 2) = zz (tmM x s t 0 1) * (zz x - ps t 1) * iz (ps t 0 - ps t 1) := zz_tm l1 (by decide)
    have b00 : zz (tmM x s t 0 1) = zz (tmM x s t 0 0) := zz_tmi
    have b11 : zz (tmM x s t 1 2) = zz (tmM x s t 1 1) := zz_tmi
    have b10 : zz (tmM x s t 1 1) = zz (tmM x s t 1 0) * (zz x - ps t 0) * iz (ps t 1 - ps t 0) := zz_tm l0 (by decide)
    have i01 := iz_mul (ht.nz (by decide : 0 < 2) (by decide : 1 < 2) (by decide))
    have i10 := iz_mul (ht.nz (by decide : 1 < 2) (by decide : 0 < 2) (by decide))
    have q := lagC2 (x := zz x) (s0 := zz (s (t 0))) (s1 := zz (s (t 1))) (g0 := cf 2 s t 0) (g1 := cf 2 s t 1) i01 i10 (by
      rw [← h0]
      generalize cf 2 s t 0 = a
      generalize cf 2 s t 1 = b
      generalize ps t 0 = c
      clear hq ht hT h0 h1 a0 a1 b01 b00 b11 b10 i01 i10 t0 z0
      grobner) (by
      rw [← h1]
      generalize cf 2 s t 0 = a
      generalize cf 2 s t 1 = b
      generalize ps t 1 = c
      clear hq ht hT h0 h1 a0 a1 b01 b00 b11 b10 i01 i10 t0 z0
      grobner)
    rw [a1, a0, b01, b00, b11, b10, z0, t0, t0]
    clear hq ht hT h0 h1 a0 a1 b01 b00 b11 b10 i01 i10 t0 z0
    generalize cf 2 s t 0 = a at *
    generalize cf 2 s t 1 = b at *
    generalize zz x = c at *
    generalize iz (ps t 0 - ps t 1) = e at *
    generalize iz (ps t 1 - ps t 0) = f at *
    generalize ps t 1 = g at *
    generalize ps t 0 = h at *
    generalize zz (s (t 0)) = i at *
    generalize zz (s (t 1)) = j at *
    grobner
  · have h0 := hq 0 (by decide)
    have h1 := hq 1 (by decide)
    have h2 := hq 2 (by decide)
    have l0 := ht.1 0 (by decide)
    have l1 := ht.1 1 (by decide)
    have l2 := ht.1 2 (by decide)
    have a2 : zz (smM 3 x s t 3) = zz (smM 3 x s t 2) + zz (tmM x s t 2 3) := zz_sm
    have a1 : zz (smM 3 x s t 2) = zz (smM 3 x s t 1) + zz (tmM x s t 1 3) := zz_sm
    have a0 : zz (smM 3 x s t 1) = zz (smM 3 x s t 0) + zz (tmM x s t 0 3) := zz_sm
    have b02 : zz (tmM x s t 0 3) = zz (tmM x s t 0 2) * (zz x - ps t 2) * iz (ps t 0 - ps t 2) := zz_tm l2 (by decide)
    have b01 : zz (tmM x s t 0 2) = zz (tmM x s t 0 1) * (zz x - ps t 1) * iz (ps t 0 - ps t 1) := zz_tm l1 (by decide)
    have b00 : zz (tmM x s t 0 1) = zz (tmM x s t 0 0) := zz_tmi
    have b12 : zz (tmM x s t 1 3) = zz (tmM x s t 1 2) * (zz x - ps t 2) * iz (ps t 1 - ps t 2) := zz_tm l2 (by decide)
    have b11 : zz (tmM x s t 1 2) = zz (tmM x s t 1 1) := zz_tmi
    have b10 : zz (tmM x s t 1 1) = zz (tmM x s t 1 0) * (zz x - ps t 0) * iz (ps t 1 - ps t 0) := zz_tm l0 (by decide)
    have b22 : zz (tmM x s t 2 3) = zz (tmM x s t 2 2) := zz_tmi
    have b21 : zz (tmM x s t 2 2) = zz (tmM x s t 2 1) * (zz x - ps t 1) * iz (ps t 2 - ps t 1) := zz_tm l1 (by decide)
    have b20 : zz (tmM x s t 2 1) = zz (tmM x s t 2 0) * (zz x - ps t 0) * iz (ps t 2 - ps t 0) := zz_tm l0 (by decide)
    have n := fun {i j : Nat} => ht.nz (i := i) (j := j)
    have q := lagM3 (x := zz x) (iz_mul (n (by decide : 0 < 3) (by decide : 1 < 3) (by decide))) (iz_mul (n (by decide : 0 < 3) (by decide : 2 < 3) (by decide))) (iz_mul (n (by decide : 1 < 3) (by decide : 0 < 3) (by decide))) (iz_mul (n (by decide : 1 < 3) (by decide : 2 < 3) (by decide))) (iz_mul (n (by decide : 2 < 3) (by decide : 0 < 3) (by decide))) (iz_mul (n (by decide : 2 < 3) (by decide : 1 < 3) (by decide))) h0 h1 h2
    rw [← q, a2, a1, a0, b02, b01, b00, b12, b11, b10, b22, b21, b20, z0, t0, t0, t0]
    congr 1
    congr 1
    exact Fin.zero_add _
