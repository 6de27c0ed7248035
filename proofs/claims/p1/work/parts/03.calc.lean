/-! NUMBERS: an Int32 as the natural number that it is -/
theorem lit_0 : (0 : Int32) = nI 0 := Eq.trans rfl rfl
theorem lit_1 : (1 : Int32) = nI 1 := Eq.trans rfl rfl
theorem lit_2 : (2 : Int32) = nI 2 := Eq.trans rfl rfl
theorem lit_3 : (3 : Int32) = nI 3 := Eq.trans rfl rfl
theorem lit_4 : (4 : Int32) = nI 4 := Eq.trans rfl rfl
theorem lit_5 : (5 : Int32) = nI 5 := Eq.trans rfl rfl
theorem lit_6 : (6 : Int32) = nI 6 := Eq.trans rfl rfl
theorem lit_7 : (7 : Int32) = nI 7 := Eq.trans rfl rfl
theorem lit_8 : (8 : Int32) = nI 8 := Eq.trans rfl rfl
theorem lit_9 : (9 : Int32) = nI 9 := Eq.trans rfl rfl
theorem lit_10 : (10 : Int32) = nI 10 := Eq.trans rfl rfl
theorem lit_11 : (11 : Int32) = nI 11 := Eq.trans rfl rfl
theorem lit_12 : (12 : Int32) = nI 12 := Eq.trans rfl rfl
theorem lit_13 : (13 : Int32) = nI 13 := Eq.trans rfl rfl
theorem lit_14 : (14 : Int32) = nI 14 := Eq.trans rfl rfl
theorem lit_15 : (15 : Int32) = nI 15 := Eq.trans rfl rfl
theorem lit_16 : (16 : Int32) = nI 16 := Eq.trans rfl rfl
theorem lit_20 : (20 : Int32) = nI 20 := Eq.trans rfl rfl
theorem lit_23 : (23 : Int32) = nI 23 := Eq.trans rfl rfl
theorem lit_24 : (24 : Int32) = nI 24 := Eq.trans rfl rfl
theorem lit_31 : (31 : Int32) = nI 31 := Eq.trans rfl rfl
theorem lit_32 : (32 : Int32) = nI 32 := Eq.trans rfl rfl
theorem lit_39 : (39 : Int32) = nI 39 := Eq.trans rfl rfl
theorem lit_43 : (43 : Int32) = nI 43 := Eq.trans rfl rfl
theorem lit_45 : (45 : Int32) = nI 45 := Eq.trans rfl rfl
theorem lit_47 : (47 : Int32) = nI 47 := Eq.trans rfl rfl
theorem lit_48 : (48 : Int32) = nI 48 := Eq.trans rfl rfl
theorem lit_56 : (56 : Int32) = nI 56 := Eq.trans rfl rfl
theorem lit_57 : (57 : Int32) = nI 57 := Eq.trans rfl rfl
theorem lit_59 : (59 : Int32) = nI 59 := Eq.trans rfl rfl
theorem lit_60 : (60 : Int32) = nI 60 := Eq.trans rfl rfl
theorem lit_62 : (62 : Int32) = nI 62 := Eq.trans rfl rfl
theorem lit_63 : (63 : Int32) = nI 63 := Eq.trans rfl rfl
theorem lit_89 : (89 : Int32) = nI 89 := Eq.trans rfl rfl
theorem lit_92 : (92 : Int32) = nI 92 := Eq.trans rfl rfl
theorem lit_96 : (96 : Int32) = nI 96 := Eq.trans rfl rfl
theorem lit_97 : (97 : Int32) = nI 97 := Eq.trans rfl rfl
theorem lit_99 : (99 : Int32) = nI 99 := Eq.trans rfl rfl
theorem lit_100 : (100 : Int32) = nI 100 := Eq.trans rfl rfl
theorem lit_102 : (102 : Int32) = nI 102 := Eq.trans rfl rfl
theorem lit_103 : (103 : Int32) = nI 103 := Eq.trans rfl rfl
theorem lit_104 : (104 : Int32) = nI 104 := Eq.trans rfl rfl
theorem lit_110 : (110 : Int32) = nI 110 := Eq.trans rfl rfl
theorem lit_111 : (111 : Int32) = nI 111 := Eq.trans rfl rfl
theorem lit_115 : (115 : Int32) = nI 115 := Eq.trans rfl rfl
theorem lit_117 : (117 : Int32) = nI 117 := Eq.trans rfl rfl
theorem lit_194 : (194 : Int32) = nI 194 := Eq.trans rfl rfl
theorem lit_200 : (200 : Int32) = nI 200 := Eq.trans rfl rfl
theorem lit_644 : (644 : Int32) = nI 644 := Eq.trans rfl rfl
theorem lit_736 : (736 : Int32) = nI 736 := Eq.trans rfl rfl
theorem lit_999 : (999 : Int32) = nI 999 := Eq.trans rfl rfl
theorem lit_1000 : (1000 : Int32) = nI 1000 := Eq.trans rfl rfl
theorem lit_9999 : (9999 : Int32) = nI 9999 := Eq.trans rfl rfl
theorem lit_10000 : (10000 : Int32) = nI 10000 := Eq.trans rfl rfl
theorem lit_1000000000 : (1000000000 : Int32) = nI 1000000000 := Eq.trans rfl rfl
theorem nI_mul (a b : Nat) : nI a * nI b = nI (a * b) := (Int32.ofNat_mul a b).symm
theorem nI_subE {a b : Nat} (h : b ≤ a) : nI a - nI b = nI (a - b) := (Int32.ofNat_sub a b h).symm
theorem nI_m1 {a : Nat} (h : 1 ≤ a) : nI a + -nI 1 = nI (a - 1) := by rw [← Int32.sub_eq_add_neg]; exact nI_subE h
theorem nI_sub_add {a b c : Nat} (h : b ≤ a + c) : nI a - nI b + nI c = nI (a + c - b) := by
  rw [← nI_subE h, ← nI_add, Int32.sub_eq_add_neg, Int32.sub_eq_add_neg, Int32.add_assoc, Int32.add_assoc, Int32.add_comm (-nI b)]
theorem nI_add_sub {a b : Nat} : nI (a + b) - nI a = nI b := by
  rw [nI_subE (Nat.le_add_right a b), Nat.add_sub_cancel_left]
theorem nI_ltE {a b : Nat} (ha : a < 2147483648) (hb : b < 2147483648) : (nI a < nI b) = (a < b) := propext (nI_ltI ha hb)
theorem nI_leE {a b : Nat} (ha : a < 2147483648) (hb : b < 2147483648) : (nI a ≤ nI b) = (a ≤ b) := propext (nI_leI ha hb)
theorem nI_eqE {a b : Nat} (ha : a < 2147483648) (hb : b < 2147483648) : (nI a = nI b) = (a = b) := propext (nI_eq ha hb)
theorem nI_nat {a : Nat} (ha : a < 2147483648) : (nI a).toNatClampNeg = a := nI_clamp ha
theorem nI_neg {a : Nat} (h0 : 0 < a) (ha : a < 2147483649) : (-nI a).toInt = -(a : Int) := by
  show (-Int32.ofNat a).toInt = _
  rw [Int32.neg_ofNat, Int32.toInt_ofInt_of_le] <;> omega
theorem nI_eqN {a b : Nat} (ha : a < 2147483648) (h0 : 0 < b) (hb : b < 2147483649) : (nI a = -nI b) = False := by
  refine eq_false fun h => ?_
  have h1 := congrArg Int32.toInt h
  rw [nI_neg h0 hb, nI_toInt ha] at h1
  omega
theorem nI_Neq {a b : Nat} (ha : a < 2147483648) (h0 : 0 < b) (hb : b < 2147483649) : (-nI b = nI a) = False := by
  refine eq_false fun h => ?_
  have h1 := congrArg Int32.toInt h
  rw [nI_neg h0 hb, nI_toInt ha] at h1
  omega
theorem nI_Nlt {a b : Nat} (ha : a < 2147483648) (h0 : 0 < b) (hb : b < 2147483649) : (-nI b < nI a) = True := by
  refine eq_true ?_
  rw [Int32.lt_iff_toInt_lt, nI_neg h0 hb, nI_toInt ha]
  omega
theorem nI_Nle {a b : Nat} (ha : a < 2147483648) (h0 : 0 < b) (hb : b < 2147483649) : (-nI b ≤ nI a) = True := by
  refine eq_true ?_
  rw [Int32.le_iff_toInt_le, nI_neg h0 hb, nI_toInt ha]
  omega
theorem nI_ltN {a b : Nat} (ha : a < 2147483648) (h0 : 0 < b) (hb : b < 2147483649) : (nI a < -nI b) = False := by
  refine eq_false ?_
  rw [Int32.lt_iff_toInt_lt, nI_neg h0 hb, nI_toInt ha]
  omega
theorem nI_leN {a b : Nat} (ha : a < 2147483648) (h0 : 0 < b) (hb : b < 2147483649) : (nI a ≤ -nI b) = False := by
  refine eq_false ?_
  rw [Int32.le_iff_toInt_le, nI_neg h0 hb, nI_toInt ha]
  omega
theorem nI_NeqN {a b : Nat} (ha0 : 0 < a) (ha : a < 2147483649) (h0 : 0 < b) (hb : b < 2147483649) : (-nI b = -nI a) = (b = a) := by
  refine propext ⟨fun h => ?_, fun h => by rw [h]⟩
  have h1 := congrArg Int32.toInt h
  rw [nI_neg h0 hb, nI_neg ha0 ha] at h1
  omega
theorem nI_div {a b : Nat} (ha : a < 2147483648) (hb : b < 2147483648) : nI a / nI b = nI (a / b) := (Int32.ofNat_div ha hb).symm
theorem nI_rem {a b : Nat} (ha : a < 2147483648) (hb : b < 2147483648) : mrem (nI a) (nI b) = nI (a % b) := by
  unfold mrem
  have h1 := Nat.div_add_mod a b
  have h2 : a / b * b ≤ a := Nat.div_mul_le_self a b
  rw [nI_div ha hb, nI_mul, nI_subE h2]
  congr 1
  rw [Nat.mul_comm] at h1
  omega
theorem nI_in' {c N : Nat} (h : c < N) (hc : c < 2147483648) : ¬ (nI c < 0 ∨ N ≤ (nI c).toNatClampNeg) := by
  rw [nI_nat hc]
  exact fun q => q.elim (nI_pos hc) (fun q => absurd q (by omega))
theorem nI_mix {β : Type} {a n : Nat} {k : Option β} (h : a < n) (ha : a < 2147483648) : mix (nI a) n k = k := by
  unfold mix
  exact if_neg (nI_in' h ha)
theorem mlet_eq {α β : Type} (x : α) (k : α → Option β) : mlet x k = k x := Eq.trans rfl rfl
theorem mbnd_eq {α β : Type} (a : α) (m : Mem) (k : α → Mem → Option β) : mbnd (some (a, m)) k = k a m := Eq.trans rfl rfl
theorem mbp_eq {α β : Type} (a : α) (k : α → Option β) : mbp (some a) k = k a := Eq.trans rfl rfl
theorem mdiv_eq {β : Type} {a : Nat} {k : Option β} (h0 : 0 < a) (ha : a < 2147483648) : mdiv (nI a) k = k := by
  unfold mdiv
  exact if_neg (nI_ne0 h0 ha)
theorem mnz_eq {β : Type} {a : Nat} {k : Option β} (h : a < 2) : mnz (nI a) k = k := by
  unfold mnz
  exact if_pos (by rcases (show a = 0 ∨ a = 1 by omega) with rfl | rfl <;> decide)
theorem nar_char {a : Nat} (h : a < 65536) : narrow .char (.int (nI a)) = .int (nI a) := (pk_charN h).1
theorem vnar_char {a : Nat} (h : a < 65536) : vp_nar .char (nI a) = nI a := by
  unfold vp_nar
  rw [nar_char h]
theorem vnar_bool {a : Nat} (h : a < 2) : vp_nar .boolean (nI a) = nI a := by
  rcases (show a = 0 ∨ a = 1 by omega) with rfl | rfl <;> rfl
theorem fits_int {x : Int32} : fits .int (.int x) = true := rfl
theorem fits_bool {a : Nat} (h : a < 2) : fits .boolean (.int (nI a)) = true := by
  rcases (show a = 0 ∨ a = 1 by omega) with rfl | rfl <;> rfl
theorem fits_char {a : Nat} (h : a < 65536) : fits .char (.int (nI a)) = true := (pk_charN h).2
theorem nI_shl1 {a : Nat} (h : a < 31) : nI 1 <<< (nI a &&& nI 31) = nI (2 ^ a) := by
  have hh : ∀ a : Nat, a < 31 → nI 1 <<< (nI a &&& nI 31) = nI (2 ^ a) := by decide +kernel
  exact hh a h
/-! WHAT COMES BEHIND: x returns, and Q holds of what it returns and leaves -/
def wp {β : Type} (x : Option (β × Mem)) (Q : β → Mem → Prop) : Prop := ∃ r M1, x = some (r, M1) ∧ Q r M1
theorem wp_some {β : Type} {r : β} {M1 : Mem} {Q : β → Mem → Prop} : wp (some (r, M1)) Q = Q r M1 := by
  refine propext ⟨?_, fun h => ⟨r, M1, rfl, h⟩⟩
  rintro ⟨r', M', h, q⟩
  cases h
  exact q
theorem wp_mbnd {α β : Type} {x : Option (α × Mem)} {k : α → Mem → Option (β × Mem)} {Q : β → Mem → Prop} : wp (mbnd x k) Q = wp x (fun a m => wp (k a m) Q) := by
  unfold mbnd wp
  refine propext ⟨?_, ?_⟩
  · rintro ⟨r, M1, h, q⟩
    cases x with
    | none => cases h
    | some y => exact ⟨y.1, y.2, rfl, r, M1, h, q⟩
  · rintro ⟨a, m, rfl, r, M1, h, q⟩
    exact ⟨r, M1, h, q⟩
theorem wp_mlet {α β : Type} {x : α} {k : α → Option (β × Mem)} {Q : β → Mem → Prop} : wp (mlet x k) Q = wp (k x) Q := Eq.trans rfl rfl
theorem wp_mbp {α β : Type} {a : α} {k : α → Option (β × Mem)} {Q : β → Mem → Prop} : wp (mbp (some a) k) Q = wp (k a) Q := Eq.trans rfl rfl
theorem wp_ite {β : Type} {c : Prop} [Decidable c] {x y : Option (β × Mem)} {Q : β → Mem → Prop} : wp (if c then x else y) Q = if c then wp x Q else wp y Q := by
  split <;> rfl
theorem wp_mix {β : Type} {j : Int32} {n : Nat} {k : Option (β × Mem)} {Q : β → Mem → Prop} : wp (mix j n k) Q = if j < 0 ∨ n ≤ j.toNatClampNeg then wp none Q else wp k Q := wp_ite
theorem wp_mdiv {β : Type} {y : Int32} {k : Option (β × Mem)} {Q : β → Mem → Prop} : wp (mdiv y k) Q = if y = 0 then wp none Q else wp k Q := wp_ite
theorem wp_mnz {β : Type} {y : Int32} {k : Option (β × Mem)} {Q : β → Mem → Prop} : wp (mnz y k) Q = if y = 0 ∨ y = 1 then wp k Q else wp none Q := wp_ite
theorem mix_ite {β : Type} {j : Int32} {n : Nat} {k : Option β} : mix j n k = if j < 0 ∨ n ≤ j.toNatClampNeg then none else k := Eq.trans rfl rfl
theorem mdiv_ite {β : Type} {y : Int32} {k : Option β} : mdiv y k = if y = 0 then none else k := Eq.trans rfl rfl
theorem mnz_ite {β : Type} {y : Int32} {k : Option β} : mnz y k = if y = 0 ∨ y = 1 then k else none := Eq.trans rfl rfl
theorem nt_e {a b : Nat} (h : a ≠ b) : (a = b) = False := eq_false h
theorem nt_t {a b : Nat} (h : a = b) : (a = b) = True := eq_true h
theorem nl_t {a b : Nat} (h : a < b) : (a < b) = True := eq_true h
theorem nl_f {a b : Nat} (h : b ≤ a) : (a < b) = False := eq_false (Nat.not_lt.mpr h)
theorem ne_t {a b : Nat} (h : a ≤ b) : (a ≤ b) = True := eq_true h
theorem ne_f {a b : Nat} (h : b < a) : (a ≤ b) = False := eq_false (Nat.not_le.mpr h)
theorem and_f {p q : Prop} (h : ¬ (p ∧ q)) : (p ∧ q) = False := eq_false h
theorem wp_mono {β : Type} {x : Option (β × Mem)} {P Q : β → Mem → Prop} (h : wp x P) (hPQ : ∀ r M1, P r M1 → Q r M1) : wp x Q := by
  obtain ⟨r, M1, e, p⟩ := h
  exact ⟨r, M1, e, hPQ r M1 p⟩
theorem wp_inr {β γ : Type} {x : Option ((Nat ⊕ γ) × Mem)} {k : γ → Mem → Option ((Nat ⊕ β) × Mem)} {Q : (Nat ⊕ β) → Mem → Prop} : wp (mbndx x k) Q = wp x (fun a m => match a with | .inl n => Q (.inl n) m | .inr b => wp (k b m) Q) := by
  unfold mbndx wp
  refine propext ⟨?_, ?_⟩
  · rintro ⟨r, M1, h, q⟩
    match x, h with
    | some (.inl n, m), h => cases h; exact ⟨_, _, rfl, q⟩
    | some (.inr b, m), h => exact ⟨_, _, rfl, r, M1, h, q⟩
  · rintro ⟨a, m, rfl, h⟩
    match a, h with
    | .inl n, h => exact ⟨_, _, rfl, h⟩
    | .inr b, ⟨r, M1, h, q⟩ => exact ⟨r, M1, h, q⟩
/-! MEMORIES -/
theorem mup_at (M : Mem) (g i k : Nat) (v : Int32) (a b c : Nat) : mup M g i k v a b c = if a = g ∧ b = i ∧ c = k then v else M a b c := Eq.trans rfl rfl
theorem mcp_at (M : Mem) (g0 i0 g1 i1 sp dp n a b c : Nat) : mcp M g0 i0 g1 i1 sp dp n a b c = if a = g1 ∧ b = i1 then (if dp ≤ c ∧ c < dp + n then M g0 i0 (sp + (c - dp)) else M g1 i1 c) else M a b c := by
  unfold mcp va_cpy
  split <;> rfl
/-- a loop that goes from x to c: the state at x is s x -/
theorem mloop {σ β : Type} {F : Nat → Int32 → σ → (σ → Option β) → Option β} {c : Nat} (s : Nat → σ) (hs : ∀ (n x : Nat) (kk : σ → Option β), x < c → F (n + 1) (nI x) (s x) kk = F n (nI (x + 1)) (s (x + 1)) kk) (he : ∀ (n : Nat) (kk : σ → Option β), F (n + 1) (nI c) (s c) kk = kk (s c)) :
    ∀ (d n x : Nat) (kk : σ → Option β), x + d = c → d < n → F n (nI x) (s x) kk = kk (s c) := by
  intro d
  induction d with
  | zero =>
    intro n x kk h1 h2
    obtain rfl : x = c := by omega
    obtain ⟨m, rfl⟩ : ∃ m, n = m + 1 := ⟨n - 1, by omega⟩
    exact he m kk
  | succ d ih =>
    intro n x kk h1 h2
    obtain ⟨m, rfl⟩ : ∃ m, n = m + 1 := ⟨n - 1, by omega⟩
    rw [hs m x kk (by omega)]
    exact ih m (x + 1) kk (by omega) (by omega)
/-- .. with an invariant -/
theorem mloopP {σ β : Type} {F : Nat → Int32 → σ → (σ → Option β) → Option β} {c : Nat} (P : Nat → σ → Prop) (hs : ∀ (n x : Nat) (s : σ) (kk : σ → Option β), x < c → P x s → ∃ s', P (x + 1) s' ∧ F (n + 1) (nI x) s kk = F n (nI (x + 1)) s' kk) (he : ∀ (n : Nat) (s : σ) (kk : σ → Option β), P c s → F (n + 1) (nI c) s kk = kk s) :
    ∀ (d n x : Nat) (s : σ) (kk : σ → Option β), x + d = c → d < n → P x s → ∃ s', P c s' ∧ F n (nI x) s kk = kk s' := by
  intro d
  induction d with
  | zero =>
    intro n x s kk h1 h2 h3
    obtain rfl : x = c := by omega
    obtain ⟨m, rfl⟩ : ∃ m, n = m + 1 := ⟨n - 1, by omega⟩
    exact ⟨s, h3, he m s kk h3⟩
  | succ d ih =>
    intro n x s kk h1 h2 h3
    obtain ⟨m, rfl⟩ : ∃ m, n = m + 1 := ⟨n - 1, by omega⟩
    obtain ⟨s', h4, h5⟩ := hs m x s kk (by omega) h3
    obtain ⟨s'', h6, h7⟩ := ih m (x + 1) s' kk (by omega) (by omega) h4
    exact ⟨s'', h6, h5.trans h7⟩
/-- the first number from x on, below x + d, of which P holds -/
def fnd (P : Nat → Bool) : Nat → Nat → Option Nat
  | _, 0 => none
  | x, d + 1 => if P x then some x else fnd P (x + 1) d
theorem fnd_none {P : Nat → Bool} : ∀ {d x : Nat}, fnd P x d = none → ∀ k, x ≤ k → k < x + d → P k = false := by
  intro d
  induction d with
  | zero => intro x _ k h1 h2; omega
  | succ d ih =>
    intro x h k h1 h2
    unfold fnd at h
    split at h
    · cases h
    · rename_i hp
      rcases Nat.eq_or_lt_of_le h1 with rfl | h3
      · simpa using hp
      · exact ih h k h3 (by omega)
theorem fnd_some {P : Nat → Bool} : ∀ {d x r : Nat}, fnd P x d = some r → x ≤ r ∧ r < x + d ∧ P r = true ∧ ∀ k, x ≤ k → k < r → P k = false := by
  intro d
  induction d with
  | zero => intro x r h; cases h
  | succ d ih =>
    intro x r h
    unfold fnd at h
    split at h
    · rename_i hp
      cases h
      exact ⟨Nat.le_refl _, by omega, hp, fun k h1 h2 => by omega⟩
    · rename_i hp
      obtain ⟨h1, h2, h3, h4⟩ := ih h
      refine ⟨by omega, by omega, h3, fun k h5 h6 => ?_⟩
      rcases Nat.eq_or_lt_of_le h5 with rfl | h7
      · simpa using hp
      · exact h4 k h7 h6
theorem fnd_cg {P P' : Nat → Bool} : ∀ {d x : Nat}, (∀ k, x ≤ k → k < x + d → P k = P' k) → fnd P x d = fnd P' x d := by
  intro d
  induction d with
  | zero => intro x _; rfl
  | succ d ih =>
    intro x h
    unfold fnd
    rw [h x (Nat.le_refl _) (by omega), ih (fun k h1 h2 => h k (by omega) (by omega))]
theorem floop {β : Type} {F : Nat → Int32 → (Unit → Option β) → Option β} {c : Nat} (P : Nat → Bool) (res : Nat → β) (hs : ∀ (n x : Nat) (kk : Unit → Option β), x < c → F (n + 1) (nI x) kk = if P x then some (res x) else F n (nI (x + 1)) kk) (he : ∀ (n : Nat) (kk : Unit → Option β), F (n + 1) (nI c) kk = kk ()) :
    ∀ (d n x : Nat) (kk : Unit → Option β), x + d = c → d < n → F n (nI x) kk = match fnd P x d with | some r => some (res r) | none => kk () := by
  intro d
  induction d with
  | zero =>
    intro n x kk h1 h2
    obtain rfl : x = c := by omega
    obtain ⟨m, rfl⟩ : ∃ m, n = m + 1 := ⟨n - 1, by omega⟩
    exact he m kk
  | succ d ih =>
    intro n x kk h1 h2
    obtain ⟨m, rfl⟩ : ∃ m, n = m + 1 := ⟨n - 1, by omega⟩
    rw [hs m x kk (by omega), ih m (x + 1) kk (by omega) (by omega)]
    show _ = match (if P x then some x else fnd P (x + 1) d) with | some r => some (res r) | none => kk ()
    cases P x <;> simp
