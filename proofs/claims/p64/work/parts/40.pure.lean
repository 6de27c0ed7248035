/-! NUMBERS: an Int32 as the natural number that it is -/
theorem lit_0 : (0 : Int32) = nI 0 := Eq.trans rfl rfl
theorem lit_1 : (1 : Int32) = nI 1 := Eq.trans rfl rfl
theorem lit_2 : (2 : Int32) = nI 2 := Eq.trans rfl rfl
theorem lit_3 : (3 : Int32) = nI 3 := Eq.trans rfl rfl
theorem lit_4 : (4 : Int32) = nI 4 := Eq.trans rfl rfl
theorem lit_5 : (5 : Int32) = nI 5 := Eq.trans rfl rfl
theorem lit_6 : (6 : Int32) = nI 6 := Eq.trans rfl rfl
theorem lit_7 : (7 : Int32) = nI 7 := Eq.trans rfl rfl
theorem lit_8 : (8 : Int32) = nI 8 := Eq.trans rfl rfl
theorem lit_9 : (9 : Int32) = nI 9 := Eq.trans rfl rfl
theorem lit_10 : (10 : Int32) = nI 10 := Eq.trans rfl rfl
theorem lit_11 : (11 : Int32) = nI 11 := Eq.trans rfl rfl
theorem lit_12 : (12 : Int32) = nI 12 := Eq.trans rfl rfl
theorem lit_13 : (13 : Int32) = nI 13 := Eq.trans rfl rfl
theorem lit_14 : (14 : Int32) = nI 14 := Eq.trans rfl rfl
theorem lit_15 : (15 : Int32) = nI 15 := Eq.trans rfl rfl
theorem lit_16 : (16 : Int32) = nI 16 := Eq.trans rfl rfl
theorem lit_20 : (20 : Int32) = nI 20 := Eq.trans rfl rfl
theorem lit_23 : (23 : Int32) = nI 23 := Eq.trans rfl rfl
theorem lit_24 : (24 : Int32) = nI 24 := Eq.trans rfl rfl
theorem lit_31 : (31 : Int32) = nI 31 := Eq.trans rfl rfl
theorem lit_32 : (32 : Int32) = nI 32 := Eq.trans rfl rfl
theorem lit_39 : (39 : Int32) = nI 39 := Eq.trans rfl rfl
theorem lit_43 : (43 : Int32) = nI 43 := Eq.trans rfl rfl
theorem lit_45 : (45 : Int32) = nI 45 := Eq.trans rfl rfl
theorem lit_47 : (47 : Int32) = nI 47 := Eq.trans rfl rfl
theorem lit_48 : (48 : Int32) = nI 48 := Eq.trans rfl rfl
theorem lit_56 : (56 : Int32) = nI 56 := Eq.trans rfl rfl
theorem lit_57 : (57 : Int32) = nI 57 := Eq.trans rfl rfl
theorem lit_59 : (59 : Int32) = nI 59 := Eq.trans rfl rfl
theorem lit_60 : (60 : Int32) = nI 60 := Eq.trans rfl rfl
theorem lit_62 : (62 : Int32) = nI 62 := Eq.trans rfl rfl
theorem lit_63 : (63 : Int32) = nI 63 := Eq.trans rfl rfl
theorem lit_89 : (89 : Int32) = nI 89 := Eq.trans rfl rfl
theorem lit_92 : (92 : Int32) = nI 92 := Eq.trans rfl rfl
theorem lit_96 : (96 : Int32) = nI 96 := Eq.trans rfl rfl
theorem lit_97 : (97 : Int32) = nI 97 := Eq.trans rfl rfl
theorem lit_99 : (99 : Int32) = nI 99 := Eq.trans rfl rfl
theorem lit_100 : (100 : Int32) = nI 100 := Eq.trans rfl rfl
theorem lit_102 : (102 : Int32) = nI 102 := Eq.trans rfl rfl
theorem lit_103 : (103 : Int32) = nI 103 := Eq.trans rfl rfl
theorem lit_104 : (104 : Int32) = nI 104 := Eq.trans rfl rfl
theorem lit_110 : (110 : Int32) = nI 110 := Eq.trans rfl rfl
theorem lit_111 : (111 : Int32) = nI 111 := Eq.trans rfl rfl
theorem lit_115 : (115 : Int32) = nI 115 := Eq.trans rfl rfl
theorem lit_117 : (117 : Int32) = nI 117 := Eq.trans rfl rfl
theorem lit_194 : (194 : Int32) = nI 194 := Eq.trans rfl rfl
theorem lit_200 : (200 : Int32) = nI 200 := Eq.trans rfl rfl
theorem lit_644 : (644 : Int32) = nI 644 := Eq.trans rfl rfl
theorem lit_736 : (736 : Int32) = nI 736 := Eq.trans rfl rfl
theorem lit_999 : (999 : Int32) = nI 999 := Eq.trans rfl rfl
theorem lit_1000 : (1000 : Int32) = nI 1000 := Eq.trans rfl rfl
theorem lit_9999 : (9999 : Int32) = nI 9999 := Eq.trans rfl rfl
theorem lit_10000 : (10000 : Int32) = nI 10000 := Eq.trans rfl rfl
theorem lit_1000000000 : (1000000000 : Int32) = nI 1000000000 := Eq.trans rfl rfl
theorem nI_mul (a b : Nat) : nI a * nI b = nI (a * b) := (Int32.ofNat_mul a b).symm
theorem nI_subE {a b : Nat} (h : b ≤ a) : nI a - nI b = nI (a - b) := (Int32.ofNat_sub a b h).symm
theorem nI_m1 {a : Nat} (h : 1 ≤ a) : nI a + -nI 1 = nI (a - 1) := by rw [← Int32.sub_eq_add_neg]; exact nI_subE h
theorem nI_sub_add {a b c : Nat} (h : b ≤ a + c) : nI a - nI b + nI c = nI (a + c - b) := by
  rw [← nI_subE h, ← nI_add, Int32.sub_eq_add_neg, Int32.sub_eq_add_neg, Int32.add_assoc, Int32.add_assoc, Int32.add_comm (-nI b)]
theorem nI_add_sub {a b : Nat} : nI (a + b) - nI a = nI b := by
  rw [nI_subE (Nat.le_add_right a b), Nat.add_sub_cancel_left]
theorem nI_ltE {a b : Nat} (ha : a < 2147483648) (hb : b < 2147483648) : (nI a < nI b) = (a < b) := propext (nI_ltI ha hb)
theorem nI_leE {a b : Nat} (ha : a < 2147483648) (hb : b < 2147483648) : (nI a ≤ nI b) = (a ≤ b) := propext (nI_leI ha hb)
theorem nI_eqE {a b : Nat} (ha : a < 2147483648) (hb : b < 2147483648) : (nI a = nI b) = (a = b) := propext (nI_eq ha hb)
theorem nI_nat {a : Nat} (ha : a < 2147483648) : (nI a).toNatClampNeg = a := nI_clamp ha
theorem nI_neg {a : Nat} (h0 : 0 < a) (ha : a < 2147483649) : (-nI a).toInt = -(a : Int) := by
  show (-Int32.ofNat a).toInt = _
  rw [Int32.neg_ofNat, Int32.toInt_ofInt_of_le] <;> omega
theorem nI_eqN {a b : Nat} (ha : a < 2147483648) (h0 : 0 < b) (hb : b < 2147483649) : (nI a = -nI b) = False := by
  refine eq_false fun h => ?_
  have h1 := congrArg Int32.toInt h
  rw [nI_neg h0 hb, nI_toInt ha] at h1
  omega
theorem nI_Neq {a b : Nat} (ha : a < 2147483648) (h0 : 0 < b) (hb : b < 2147483649) : (-nI b = nI a) = False := by
  refine eq_false fun h => ?_
  have h1 := congrArg Int32.toInt h
  rw [nI_neg h0 hb, nI_toInt ha] at h1
  omega
theorem nI_Nlt {a b : Nat} (ha : a < 2147483648) (h0 : 0 < b) (hb : b < 2147483649) : (-nI b < nI a) = True := by
  refine eq_true ?_
  rw [Int32.lt_iff_toInt_lt, nI_neg h0 hb, nI_toInt ha]
  omega
theorem nI_Nle {a b : Nat} (ha : a < 2147483648) (h0 : 0 < b) (hb : b < 2147483649) : (-nI b ≤ nI a) = True := by
  refine eq_true ?_
  rw [Int32.le_iff_toInt_le, nI_neg h0 hb, nI_toInt ha]
  omega
theorem nI_ltN {a b : Nat} (ha : a < 2147483648) (h0 : 0 < b) (hb : b < 2147483649) : (nI a < -nI b) = False := by
  refine eq_false ?_
  rw [Int32.lt_iff_toInt_lt, nI_neg h0 hb, nI_toInt ha]
  omega
theorem nI_leN {a b : Nat} (ha : a < 2147483648) (h0 : 0 < b) (hb : b < 2147483649) : (nI a ≤ -nI b) = False := by
  refine eq_false ?_
  rw [Int32.le_iff_toInt_le, nI_neg h0 hb, nI_toInt ha]
  omega
theorem nI_NeqN {a b : Nat} (ha0 : 0 < a) (ha : a < 2147483649) (h0 : 0 < b) (hb : b < 2147483649) : (-nI b = -nI a) = (b = a) := by
  refine propext ⟨fun h => ?_, fun h => by rw [h]⟩
  have h1 := congrArg Int32.toInt h
  rw [nI_neg h0 hb, nI_neg ha0 ha] at h1
  omega
theorem nI_div {a b : Nat} (ha : a < 2147483648) (hb : b < 2147483648) : nI a / nI b = nI (a / b) := (Int32.ofNat_div ha hb).symm
theorem nI_rem {a b : Nat} (ha : a < 2147483648) (hb : b < 2147483648) : mrem (nI a) (nI b) = nI (a % b) := by
  unfold mrem
  have h1 := Nat.div_add_mod a b
  have h2 : a / b * b ≤ a := Nat.div_mul_le_self a b
  rw [nI_div ha hb, nI_mul, nI_subE h2]
  congr 1
  rw [Nat.mul_comm] at h1
  omega
theorem nI_in' {c N : Nat} (h : c < N) (hc : c < 2147483648) : ¬ (nI c < 0 ∨ N ≤ (nI c).toNatClampNeg) := by
  rw [nI_nat hc]
  exact fun q => q.elim (nI_pos hc) (fun q => absurd q (by omega))
theorem nI_mix {β : Type} {a n : Nat} {k : Option β} (h : a < n) (ha : a < 2147483648) : mix (nI a) n k = k := by
  unfold mix
  exact if_neg (nI_in' h ha)
theorem mlet_eq {α β : Type} (x : α) (k : α → Option β) : mlet x k = k x := Eq.trans rfl rfl
theorem mbnd_eq {α β : Type} (a : α) (m : Mem) (k : α → Mem → Option β) : mbnd (some (a, m)) k = k a m := Eq.trans rfl rfl
theorem mbp_eq {α β : Type} (a : α) (k : α → Option β) : mbp (some a) k = k a := Eq.trans rfl rfl
theorem mdiv_eq {β : Type} {a : Nat} {k : Option β} (h0 : 0 < a) (ha : a < 2147483648) : mdiv (nI a) k = k := by
  unfold mdiv
  exact if_neg (nI_ne0 h0 ha)
theorem mnz_eq {β : Type} {a : Nat} {k : Option β} (h : a < 2) : mnz (nI a) k = k := by
  unfold mnz
  exact if_pos (by rcases (show a = 0 ∨ a = 1 by omega) with rfl | rfl <;> decide)
theorem nar_char {a : Nat} (h : a < 65536) : narrow .char (.int (nI a)) = .int (nI a) := (pk_charN h).1
theorem vnar_char {a : Nat} (h : a < 65536) : vp_nar .char (nI a) = nI a := by
  unfold vp_nar
  rw [nar_char h]
theorem vnar_bool {a : Nat} (h : a < 2) : vp_nar .boolean (nI a) = nI a := by
  rcases (show a = 0 ∨ a = 1 by omega) with rfl | rfl <;> rfl
theorem fits_int {x : Int32} : fits .int (.int x) = true := rfl
theorem fits_bool {a : Nat} (h : a < 2) : fits .boolean (.int (nI a)) = true := by
  rcases (show a = 0 ∨ a = 1 by omega) with rfl | rfl <;> rfl
theorem fits_char {a : Nat} (h : a < 65536) : fits .char (.int (nI a)) = true := (pk_charN h).2
theorem nI_shl1 {a : Nat} (h : a < 31) : nI 1 <<< (nI a &&& nI 31) = nI (2 ^ a) := by
  have hh : ∀ a : Nat, a < 31 → nI 1 <<< (nI a &&& nI 31) = nI (2 ^ a) := by decide +kernel
  exact hh a h
/-! WHAT COMES BEHIND: x returns, and Q holds of what it returns and leaves -/
def wp {β : Type} (x : Option (β × Mem)) (Q : β → Mem → Prop) : Prop := ∃ r M1, x = some (r, M1) ∧ Q r M1
theorem wp_some {β : Type} {r : β} {M1 : Mem} {Q : β → Mem → Prop} : wp (some (r, M1)) Q = Q r M1 := by
  refine propext ⟨?_, fun h => ⟨r, M1, rfl, h⟩⟩
  rintro ⟨r', M', h, q⟩
  cases h
  exact q
theorem wp_mbnd {α β : Type} {x : Option (α × Mem)} {k : α → Mem → Option (β × Mem)} {Q : β → Mem → Prop} : wp (mbnd x k) Q = wp x (fun a m => wp (k a m) Q) := by
  unfold mbnd wp
  refine propext ⟨?_, ?_⟩
  · rintro ⟨r, M1, h, q⟩
    cases x with
    | none => cases h
    | some y => exact ⟨y.1, y.2, rfl, r, M1, h, q⟩
  · rintro ⟨a, m, rfl, r, M1, h, q⟩
    exact ⟨r, M1, h, q⟩
theorem wp_mlet {α β : Type} {x : α} {k : α → Option (β × Mem)} {Q : β → Mem → Prop} : wp (mlet x k) Q = wp (k x) Q := Eq.trans rfl rfl
theorem wp_mbp {α β : Type} {a : α} {k : α → Option (β × Mem)} {Q : β → Mem → Prop} : wp (mbp (some a) k) Q = wp (k a) Q := Eq.trans rfl rfl
theorem wp_ite {β : Type} {c : Prop} [Decidable c] {x y : Option (β × Mem)} {Q : β → Mem → Prop} : wp (if c then x else y) Q = if c then wp x Q else wp y Q := by
  split <;> rfl
theorem wp_mix {β : Type} {j : Int32} {n : Nat} {k : Option (β × Mem)} {Q : β → Mem → Prop} : wp (mix j n k) Q = if j < 0 ∨ n ≤ j.toNatClampNeg then wp none Q else wp k Q := wp_ite
theorem wp_mdiv {β : Type} {y : Int32} {k : Option (β × Mem)} {Q : β → Mem → Prop} : wp (mdiv y k) Q = if y = 0 then wp none Q else wp k Q := wp_ite
theorem wp_mnz {β : Type} {y : Int32} {k : Option (β × Mem)} {Q : β → Mem → Prop} : wp (mnz y k) Q = if y = 0 ∨ y = 1 then wp k Q else wp none Q := wp_ite
theorem mix_ite {β : Type} {j : Int32} {n : Nat} {k : Option β} : mix j n k = if j < 0 ∨ n ≤ j.toNatClampNeg then none else k := Eq.trans rfl rfl
theorem mdiv_ite {β : Type} {y : Int32} {k : Option β} : mdiv y k = if y = 0 then none else k := Eq.trans rfl rfl
theorem mnz_ite {β : Type} {y : Int32} {k : Option β} : mnz y k = if y = 0 ∨ y = 1 then k else none := Eq.trans rfl rfl
theorem nt_e {a b : Nat} (h : a ≠ b) : (a = b) = False := eq_false h
theorem nt_t {a b : Nat} (h : a = b) : (a = b) = True := eq_true h
theorem nl_t {a b : Nat} (h : a < b) : (a < b) = True := eq_true h
theorem nl_f {a b : Nat} (h : b ≤ a) : (a < b) = False := eq_false (Nat.not_lt.mpr h)
theorem ne_t {a b : Nat} (h : a ≤ b) : (a ≤ b) = True := eq_true h
theorem ne_f {a b : Nat} (h : b < a) : (a ≤ b) = False := eq_false (Nat.not_le.mpr h)
theorem and_f {p q : Prop} (h : ¬ (p ∧ q)) : (p ∧ q) = False := eq_false h
theorem wp_mono {β : Type} {x : Option (β × Mem)} {P Q : β → Mem → Prop} (h : wp x P) (hPQ : ∀ r M1, P r M1 → Q r M1) : wp x Q := by
  obtain ⟨r, M1, e, p⟩ := h
  exact ⟨r, M1, e, hPQ r M1 p⟩
theorem wp_inr {β γ : Type} {x : Option ((Nat ⊕ γ) × Mem)} {k : γ → Mem → Option ((Nat ⊕ β) × Mem)} {Q : (Nat ⊕ β) → Mem → Prop} : wp (mbndx x k) Q = wp x (fun a m => match a with | .inl n => Q (.inl n) m | .inr b => wp (k b m) Q) := by
  unfold mbndx wp
  refine propext ⟨?_, ?_⟩
  · rintro ⟨r, M1, h, q⟩
    match x, h with
    | some (.inl n, m), h => cases h; exact ⟨_, _, rfl, q⟩
    | some (.inr b, m), h => exact ⟨_, _, rfl, r, M1, h, q⟩
  · rintro ⟨a, m, rfl, h⟩
    match a, h with
    | .inl n, h => exact ⟨_, _, rfl, h⟩
    | .inr b, ⟨r, M1, h, q⟩ => exact ⟨r, M1, h, q⟩
/-! MEMORIES -/
theorem mup_at (M : Mem) (g i k : Nat) (v : Int32) (a b c : Nat) : mup M g i k v a b c = if a = g ∧ b = i ∧ c = k then v else M a b c := Eq.trans rfl rfl
theorem mcp_at (M : Mem) (g0 i0 g1 i1 sp dp n a b c : Nat) : mcp M g0 i0 g1 i1 sp dp n a b c = if a = g1 ∧ b = i1 then (if dp ≤ c ∧ c < dp + n then M g0 i0 (sp + (c - dp)) else M g1 i1 c) else M a b c := by
  unfold mcp va_cpy
  split <;> rfl
/-- a loop that goes from x to c: the state at x is s x -/
theorem mloop {σ β : Type} {F : Nat → Int32 → σ → (σ → Option β) → Option β} {c : Nat} (s : Nat → σ) (hs : ∀ (n x : Nat) (kk : σ → Option β), x < c → F (n + 1) (nI x) (s x) kk = F n (nI (x + 1)) (s (x + 1)) kk) (he : ∀ (n : Nat) (kk : σ → Option β), F (n + 1) (nI c) (s c) kk = kk (s c)) :
    ∀ (d n x : Nat) (kk : σ → Option β), x + d = c → d < n → F n (nI x) (s x) kk = kk (s c) := by
  intro d
  induction d with
  | zero =>
    intro n x kk h1 h2
    obtain rfl : x = c := by omega
    obtain ⟨m, rfl⟩ : ∃ m, n = m + 1 := ⟨n - 1, by omega⟩
    exact he m kk
  | succ d ih =>
    intro n x kk h1 h2
    obtain ⟨m, rfl⟩ : ∃ m, n = m + 1 := ⟨n - 1, by omega⟩
    rw [hs m x kk (by omega)]
    exact ih m (x + 1) kk (by omega) (by omega)
/-- .. with an invariant -/
theorem mloopP {σ β : Type} {F : Nat → Int32 → σ → (σ → Option β) → Option β} {c : Nat} (P : Nat → σ → Prop) (hs : ∀ (n x : Nat) (s : σ) (kk : σ → Option β), x < c → P x s → ∃ s', P (x + 1) s' ∧ F (n + 1) (nI x) s kk = F n (nI (x + 1)) s' kk) (he : ∀ (n : Nat) (s : σ) (kk : σ → Option β), P c s → F (n + 1) (nI c) s kk = kk s) :
    ∀ (d n x : Nat) (s : σ) (kk : σ → Option β), x + d = c → d < n → P x s → ∃ s', P c s' ∧ F n (nI x) s kk = kk s' := by
  intro d
  induction d with
  | zero =>
    intro n x s kk h1 h2 h3
    obtain rfl : x = c := by omega
    obtain ⟨m, rfl⟩ : ∃ m, n = m + 1 := ⟨n - 1, by omega⟩
    exact ⟨s, h3, he m s kk h3⟩
  | succ d ih =>
    intro n x s kk h1 h2 h3
    obtain ⟨m, rfl⟩ : ∃ m, n = m + 1 := ⟨n - 1, by omega⟩
    obtain ⟨s', h4, h5⟩ := hs m x s kk (by omega) h3
    obtain ⟨s'', h6, h7⟩ := ih m (x + 1) s' kk (by omega) (by omega) h4
    exact ⟨s'', h6, h5.trans h7⟩
/-- the first number from x on, below x + d, of which P holds -/
def fnd (P : Nat → Bool) : Nat → Nat → Option Nat
  | _, 0 => none
  | x, d + 1 => if P x then some x else fnd P (x + 1) d
theorem fnd_none {P : Nat → Bool} : ∀ {d x : Nat}, fnd P x d = none → ∀ k, x ≤ k → k < x + d → P k = false := by
  intro d
  induction d with
  | zero => intro x _ k h1 h2; omega
  | succ d ih =>
    intro x h k h1 h2
    unfold fnd at h
    split at h
    · cases h
    · rename_i hp
      rcases Nat.eq_or_lt_of_le h1 with rfl | h3
      · simpa using hp
      · exact ih h k h3 (by omega)
theorem fnd_some {P : Nat → Bool} : ∀ {d x r : Nat}, fnd P x d = some r → x ≤ r ∧ r < x + d ∧ P r = true ∧ ∀ k, x ≤ k → k < r → P k = false := by
  intro d
  induction d with
  | zero => intro x r h; cases h
  | succ d ih =>
    intro x r h
    unfold fnd at h
    split at h
    · rename_i hp
      cases h
      exact ⟨Nat.le_refl _, by omega, hp, fun k h1 h2 => by omega⟩
    · rename_i hp
      obtain ⟨h1, h2, h3, h4⟩ := ih h
      refine ⟨by omega, by omega, h3, fun k h5 h6 => ?_⟩
      rcases Nat.eq_or_lt_of_le h5 with rfl | h7
      · simpa using hp
      · exact h4 k h7 h6
theorem fnd_cg {P P' : Nat → Bool} : ∀ {d x : Nat}, (∀ k, x ≤ k → k < x + d → P k = P' k) → fnd P x d = fnd P' x d := by
  intro d
  induction d with
  | zero => intro x _; rfl
  | succ d ih =>
    intro x h
    unfold fnd
    rw [h x (Nat.le_refl _) (by omega), ih (fun k h1 h2 => h k (by omega) (by omega))]
theorem floop {β : Type} {F : Nat → Int32 → (Unit → Option β) → Option β} {c : Nat} (P : Nat → Bool) (res : Nat → β) (hs : ∀ (n x : Nat) (kk : Unit → Option β), x < c → F (n + 1) (nI x) kk = if P x then some (res x) else F n (nI (x + 1)) kk) (he : ∀ (n : Nat) (kk : Unit → Option β), F (n + 1) (nI c) kk = kk ()) :
    ∀ (d n x : Nat) (kk : Unit → Option β), x + d = c → d < n → F n (nI x) kk = match fnd P x d with | some r => some (res r) | none => kk () := by
  intro d
  induction d with
  | zero =>
    intro n x kk h1 h2
    obtain rfl : x = c := by omega
    obtain ⟨m, rfl⟩ : ∃ m, n = m + 1 := ⟨n - 1, by omega⟩
    exact he m kk
  | succ d ih =>
    intro n x kk h1 h2
    obtain ⟨m, rfl⟩ : ∃ m, n = m + 1 := ⟨n - 1, by omega⟩
    rw [hs m x kk (by omega), ih m (x + 1) kk (by omega) (by omega)]
    show _ = match (if P x then some x else fnd P (x + 1) d) with | some r => some (res r) | none => kk ()
    cases P x <;> simp
/-! THE STATE AS NUMBERS. A place a number, in the model's order: 0 holders, 1 sealed, 2 3 4 the curve, 5 threshold, 6 open, 7 locked, 8 failed, 9 shown, 10 guards, 11 hour, 12 openings, 13 alarms, 14 entries, 15.. shares, 23.. keys, 31.. noise, 39.. alarms of a zone, 47.. guards (zone, way: 1 or 2, period), 56.. entries (hour, kind, detail) -/
abbrev Sp : Type := Nat → Nat
def up (α : Sp) (k v : Nat) : Sp := fun j => if j = k then v else α j
theorem up_at (α : Sp) (k v j : Nat) : up α k v j = if j = k then v else α j := Eq.trans rfl rfl
def way (j : Nat) : Prop := j = 48 ∨ j = 51 ∨ j = 54
def enc (α : Sp) : Nat → Int32 := fun j => if (j = 48 ∨ j = 51 ∨ j = 54) ∧ α j = 2 then -nI 1 else nI (α j)
theorem enc_n {α : Sp} {j : Nat} (h : ¬ (j = 48 ∨ j = 51 ∨ j = 54)) : enc α j = nI (α j) := if_neg fun q => h q.1
theorem enc_n2 {α : Sp} {j : Nat} (h : ¬ α j = 2) : enc α j = nI (α j) := if_neg fun q => h q.2
theorem enc_2 {α : Sp} {j : Nat} (hj : j = 48 ∨ j = 51 ∨ j = 54) (h : α j = 2) : enc α j = -nI 1 := if_pos ⟨hj, h⟩
theorem enc_up {α : Sp} {k v : Nat} (h : ¬ (k = 48 ∨ k = 51 ∨ k = 54)) : upd (enc α) k (nI v) = enc (up α k v) := by
  funext j
  unfold upd enc up
  by_cases hj : j = k
  · subst hj
    simp [h]
  · simp [hj]
theorem enc_upw {α : Sp} {k v : Nat} (h : k = 48 ∨ k = 51 ∨ k = 54) {x : Int32} (hx : x = if v = 2 then -nI 1 else nI v) : upd (enc α) k x = enc (up α k v) := by
  funext j
  unfold upd enc up
  by_cases hj : j = k
  · subst hj
    simp [h, hx]
  · simp [hj]
theorem pm_self {M : Mem} {g i k : Nat} {v : Int32} : (mup M g i k v) g i = upd (M g i) k v := by
  funext c
  simp only [mup, upd]
  by_cases h : c = k <;> simp [h]
theorem pm_ne {M : Mem} {g i k : Nat} {v : Int32} {a b : Nat} (h : ¬ (a = g ∧ b = i)) : (mup M g i k v) a b = M a b := by
  funext c
  simp only [mup]
  rw [if_neg (fun q => h ⟨q.1, q.2.1⟩)]
theorem pm_g {M : Mem} {g i k : Nat} {v : Int32} {a : Nat} (h : ¬ a = g) : (mup M g i k v) a = M a := by
  funext b
  exact pm_ne (fun q => h q.1)
theorem pc_g {M : Mem} {g0 i0 g1 i1 sp dp n a : Nat} (h : ¬ a = g1) : mcp M g0 i0 g1 i1 sp dp n a = M a := by
  funext b
  unfold mcp
  rw [if_neg (fun q => h q.1)]
/-- holders and keys in a group of the class -/
def Rk (G : Nat → Nat → Int32) (α : Sp) : Prop := G 1 0 = nI (α 0) ∧ G 1 2 = nI (α 1) ∧ G 1 3 = nI (α 5) ∧ G 1 5 = nI (α 9) ∧ (∀ k, k < 8 → G 2 k = nI (α (15 + k))) ∧ (∀ k, k < 3 → G 3 k = nI (α (2 + k))) ∧ (∀ k, k < 8 → k < α 9 → G 4 k = nI (α (23 + k)))
def Rd (G : Nat → Nat → Int32) (α : Sp) : Prop := G 5 0 = nI (α 6) ∧ G 5 1 = nI (α 7) ∧ G 5 2 = nI (α 8) ∧ G 5 3 = nI (α 12)
def Rb (G : Nat → Nat → Int32) (α : Sp) : Prop := G 6 0 = nI (α 11) ∧ G 6 3 = nI (α 13) ∧ G 6 4 = nI (α 10) ∧ (∀ k, k < 8 → G 7 k = nI (α (31 + k))) ∧ (∀ k, k < 8 → G 8 k = nI (α (39 + k))) ∧ (∀ k, k < 3 → k < α 10 → G 9 k = nI (α (47 + 3 * k)) ∧ G 10 k = nI (2 - α (48 + 3 * k)) ∧ G 11 k = nI (α (49 + 3 * k))) ∧ (∀ k, k < 3 → ∃ c, c < 2 ∧ G 10 k = nI c)
def Rj (G : Nat → Nat → Int32) (α : Sp) : Prop := G 12 0 = nI (α 14) ∧ (∀ k, k < 12 → k < α 14 → G 13 k = nI (α (56 + 3 * k)) ∧ G 14 k = nI (α (57 + 3 * k)) ∧ G 15 k = nI (α (58 + 3 * k))) ∧ (∀ k, k < 12 → ∃ c, c < 65536 ∧ G 14 k = nI c)
def RC (G : Nat → Nat → Int32) (α : Sp) : Prop := Rk G α ∧ Rd G α ∧ Rb G α ∧ Rj G α
theorem Rk.of {G G' : Nat → Nat → Int32} {α α' : Sp} (hG : ∀ i, 1 ≤ i → i ≤ 4 → G' i = G i) (hα : ∀ j, j < 6 ∨ j = 9 ∨ 15 ≤ j ∧ j < 31 → α' j = α j) (h : Rk G α) : Rk G' α' := by
  obtain ⟨h1, h2, h3, h4, h5, h6, h7⟩ := h
  refine ⟨?_, ?_, ?_, ?_, fun k hk => ?_, fun k hk => ?_, fun k hk hk9 => ?_⟩
  · rw [hG 1 (by decide) (by decide), hα 0 (by omega)]; exact h1
  · rw [hG 1 (by decide) (by decide), hα 1 (by omega)]; exact h2
  · rw [hG 1 (by decide) (by decide), hα 5 (by omega)]; exact h3
  · rw [hG 1 (by decide) (by decide), hα 9 (by omega)]; exact h4
  · rw [hG 2 (by decide) (by decide), hα _ (by omega)]; exact h5 k hk
  · rw [hG 3 (by decide) (by decide), hα _ (by omega)]; exact h6 k hk
  · rw [hα 9 (by omega)] at hk9
    rw [hG 4 (by decide) (by decide), hα _ (by omega)]; exact h7 k hk hk9
theorem Rd.of {G G' : Nat → Nat → Int32} {α α' : Sp} (hG : G' 5 = G 5) (hα : ∀ j, j = 6 ∨ j = 7 ∨ j = 8 ∨ j = 12 → α' j = α j) (h : Rd G α) : Rd G' α' := by
  obtain ⟨h1, h2, h3, h4⟩ := h
  refine ⟨?_, ?_, ?_, ?_⟩
  · rw [hG, hα 6 (by omega)]; exact h1
  · rw [hG, hα 7 (by omega)]; exact h2
  · rw [hG, hα 8 (by omega)]; exact h3
  · rw [hG, hα 12 (by omega)]; exact h4
theorem Rb.of {G G' : Nat → Nat → Int32} {α α' : Sp} (hG : ∀ i, 6 ≤ i → i ≤ 11 → G' i = G i) (hα : ∀ j, j = 10 ∨ j = 11 ∨ j = 13 ∨ 31 ≤ j ∧ j < 56 → α' j = α j) (h : Rb G α) : Rb G' α' := by
  obtain ⟨h1, h2, h3, h4, h5, h6, h7⟩ := h
  refine ⟨?_, ?_, ?_, fun k hk => ?_, fun k hk => ?_, fun k hk hk9 => ?_, fun k hk => ?_⟩
  · rw [hG 6 (by decide) (by decide), hα 11 (by omega)]; exact h1
  · rw [hG 6 (by decide) (by decide), hα 13 (by omega)]; exact h2
  · rw [hG 6 (by decide) (by decide), hα 10 (by omega)]; exact h3
  · rw [hG 7 (by decide) (by decide), hα _ (by omega)]; exact h4 k hk
  · rw [hG 8 (by decide) (by decide), hα _ (by omega)]; exact h5 k hk
  · rw [hα 10 (by omega)] at hk9
    rw [hG 9 (by decide) (by decide), hG 10 (by decide) (by decide), hG 11 (by decide) (by decide), hα _ (by omega), hα _ (by omega), hα _ (by omega)]; exact h6 k hk hk9
  · rw [hG 10 (by decide) (by decide)]; exact h7 k hk
theorem Rj.of {G G' : Nat → Nat → Int32} {α α' : Sp} (hG : ∀ i, 12 ≤ i → i ≤ 15 → G' i = G i) (hα : ∀ j, j = 14 ∨ 56 ≤ j ∧ j < 92 → α' j = α j) (h : Rj G α) : Rj G' α' := by
  obtain ⟨h1, h2, h3⟩ := h
  refine ⟨?_, fun k hk hk9 => ?_, fun k hk => ?_⟩
  · rw [hG 12 (by decide) (by decide), hα 14 (by omega)]; exact h1
  · rw [hα 14 (by omega)] at hk9
    rw [hG 13 (by decide) (by decide), hG 14 (by decide) (by decide), hG 15 (by decide) (by decide), hα _ (by omega), hα _ (by omega), hα _ (by omega)]; exact h2 k hk hk9
  · rw [hG 14 (by decide) (by decide)]; exact h3 k hk
/-- the bounds of a state; H: no hour is later -/
def Inv (H : Nat) (α : Sp) : Prop := (α 0 ≤ 8 ∧ α 1 ≤ 1 ∧ α 2 ≤ 96 ∧ α 3 ≤ 96 ∧ α 4 ≤ 96 ∧ α 5 ≤ 3 ∧ α 6 ≤ 1 ∧ α 7 ≤ 6 ∧ α 8 ≤ 2 ∧ α 9 ≤ α 0 ∧ α 10 ≤ 3 ∧ α 11 ≤ H ∧ α 14 ≤ 12) ∧ (α 1 = 0 → α 6 = 0 ∧ α 9 = 0) ∧ (α 1 = 1 → 1 ≤ α 5) ∧ (∀ k, k < 8 → α (15 + k) ≤ 96) ∧ (∀ k, k < α 9 → α (23 + k) < α 0) ∧ (∀ i k, i < k → k < α 9 → α (23 + i) ≠ α (23 + k)) ∧ (∀ k, k < 8 → α (31 + k) ≤ 20 ∧ α (39 + k) ≤ α 11) ∧ α 13 = α 39 + α 40 + α 41 + α 42 + α 43 + α 44 + α 45 + α 46 ∧ (∀ k, k < α 10 → α (47 + 3 * k) ≤ 7 ∧ 1 ≤ α (48 + 3 * k) ∧ α (48 + 3 * k) ≤ 2 ∧ 1 ≤ α (49 + 3 * k) ∧ α (49 + 3 * k) ≤ 4) ∧ (∀ k, k < α 14 → α (56 + 3 * k) ≤ α 11 ∧ (α (57 + 3 * k) = 97 ∨ α (57 + 3 * k) = 99 ∨ α (57 + 3 * k) = 102 ∨ α (57 + 3 * k) = 111) ∧ α (58 + 3 * k) ≤ 8)
/-- what an operation comes to: done with an answer and a state, or refused with a reason and a detail (20: no such index, 21: a bad argument) -/
abbrev Ex : Type := (Nat × Nat) ⊕ (Nat × Sp)
def vc (k : Nat) : Int32 := if k = 20 then -nI 1 else if k = 21 then -nI 2 else nI k
/-- the class does e -/
def CT (M : Mem) (subj : Int32) (e : Ex) (x : Option (Int32 × Mem)) : Prop := match e with
  | .inr (ans, β) => wp x fun r M1 => r = nI 0 ∧ RC (M1 0) β ∧ M1 0 0 4 = nI ans ∧ ∀ a, a ≠ 0 → M1 a = M a
  | .inl (k, d) => x = some (vc k, M) ∧ (k < 20 → f_X9_detailOf 0 (nI k) subj M = some (nI d))
/-- the model does e; code: its exceptions -/
def MT (M : Mem) (c21 : Nat) (e : Ex) (x : Option (Int32 × Mem)) : Prop := match e with
  | .inr (ans, β) => wp x fun r M1 => r = nI 0 ∧ M1 12 48 = enc β ∧ (∀ k, k ≠ 15 → M1 12 47 k = M 12 47 k) ∧ M1 12 47 15 = nI ans ∧ ∀ a b, ¬ (a = 12 ∧ (b = 47 ∨ b = 48 ∨ b = 56)) → M1 a b = M a b
  | .inl (k, d) => if k < 20 then wp x fun r M1 => r = -nI k ∧ M1 12 48 = M 12 48 ∧ (∀ j, j ≠ 16 → j ≠ 17 → j ≠ 18 → M1 12 47 j = M 12 47 j) ∧ M1 12 47 16 = nI k ∧ M1 12 47 17 = nI d ∧ M1 12 47 18 = nI 0 ∧ ∀ a b, ¬ (a = 12 ∧ b = 47) → M1 a b = M a b
    else x = some (nI (if k = 20 then 1 else c21), M)
theorem m_refused (M : Mem) (k d : Nat) : f_X12_refused (nI k) (nI d) M = some (-nI k, mup (mup (mup M 12 47 16 (nI k)) 12 47 17 (nI d)) 12 47 18 (nI 0)) := rfl
theorem MT_refused {M : Mem} {c21 k d : Nat} (hk : k < 20) : MT M c21 (.inl (k, d)) (mbnd (f_X12_refused (nI k) (nI d) M) fun r M1 => some (r, M1)) := by
  unfold MT
  simp only [hk, if_true]
  rw [m_refused]
  refine ⟨_, _, rfl, rfl, ?_, ?_, ?_, ?_, ?_, ?_⟩
  · rw [pm_ne (by decide), pm_ne (by decide), pm_ne (by decide)]
  · intro j h1 h2 h3
    simp [mup_at, h1, h2, h3]
  · simp [mup_at]
  · simp [mup_at]
  · simp [mup_at]
  · intro a b h
    rw [pm_ne h, pm_ne h, pm_ne h]
/-! OPERATIONS -/
def crv (α : Sp) (h : Nat) : Nat := (α 2 + α 3 * (h + 1) + α 4 * (h + 1) * (h + 1)) % 97
def sAdd (α : Sp) : Ex := if α 0 = 8 then .inl (1, 8) else .inr (α 0, up (up α (15 + α 0) (crv α (α 0))) 0 (α 0 + 1))
def idx (x : Int32) (n : Nat) : Bool := decide (¬ x < 0) && decide (x.toNatClampNeg < n)
theorem idx_I {j n : Nat} (hj : j < 2147483648) : idx (nI j) n = decide (j < n) := by
  unfold idx
  rw [nI_nat hj, decide_eq_true (nI_pos hj)]
  rfl
theorem idx_neg {x : Int32} {n : Nat} (h : x < 0) : idx x n = false := by
  unfold idx
  rw [decide_eq_false (fun q => q h)]
  rfl
theorem idx_c (x : Int32) (n : Nat) (hn : n < 2147483648) : (∃ j, j < n ∧ x = nI j ∧ idx x n = true) ∨ (idx x n = false ∧ (x < 0 ∨ ∃ j, j < 2147483648 ∧ n ≤ j ∧ x = nI j)) := by
  by_cases h : x < 0
  · exact Or.inr ⟨idx_neg h, Or.inl h⟩
  · obtain ⟨j, hj, rfl⟩ := nI_of h
    by_cases hjn : j < n
    · exact Or.inl ⟨j, hjn, rfl, by rw [idx_I hj]; exact decide_eq_true hjn⟩
    · exact Or.inr ⟨by rw [idx_I hj]; exact decide_eq_false hjn, Or.inr ⟨j, hj, by omega, rfl⟩⟩
theorem neg_of {x : Int32} (h : x < 0) {n : Nat} (hn : n < 2147483648) : (nI n ≤ x) = False ∧ (x < nI n) = True ∧ (x ≤ nI n) = True ∧ (nI n < x) = False ∧ (x = nI n) = False := by
  have h1 := Int32.lt_iff_toInt_lt.mp h
  have h2 := nI_toInt hn
  have h3 : (0 : Int32).toInt = 0 := rfl
  rw [h3] at h1
  refine ⟨eq_false ?_, eq_true ?_, eq_true ?_, eq_false ?_, eq_false fun q => ?_⟩
  · rw [Int32.le_iff_toInt_le]; omega
  · rw [Int32.lt_iff_toInt_lt]; omega
  · rw [Int32.le_iff_toInt_le]; omega
  · rw [Int32.lt_iff_toInt_lt]; omega
  · rw [q, h2] at h1; omega
/-- x is between nI a and nI b -/
theorem rng_c (x : Int32) (b : Nat) (hb : b < 2147483648) : f_X12_in x (nI 0) (nI b) = fun _ => some (nI (idx x (b + 1)).toNat) := by
  funext M
  unfold f_X12_in
  rw [lit_0, lit_1]
  by_cases h : x < 0
  · rw [idx_neg h, if_pos (by rw [← lit_0]; exact h)]; rfl
  · obtain ⟨j, hj, rfl⟩ := nI_of h
    rw [idx_I hj, if_neg (by rw [← lit_0]; exact nI_pos hj)]
    by_cases hjb : j < b + 1
    · rw [if_neg (by rw [nI_ltE hb hj]; omega), decide_eq_true hjb]; rfl
    · rw [if_pos (by rw [nI_ltE hb hj]; omega), decide_eq_false hjb]; rfl
theorem rng_c0 (x : Int32) : f_X12_in x (nI 0) (-nI 1) = fun _ => some (nI (idx x 0).toNat) := by
  funext M
  unfold f_X12_in
  rw [lit_0, lit_1]
  by_cases h : x < 0
  · rw [idx_neg h, if_pos (by rw [← lit_0]; exact h)]; rfl
  · obtain ⟨j, hj, rfl⟩ := nI_of h
    rw [idx_I hj, if_neg (by rw [← lit_0]; exact nI_pos hj), if_pos (by rw [nI_Nlt hj (by decide) (by decide)]; trivial), decide_eq_false (by omega)]; rfl
theorem rng_s (x : Int32) (n : Nat) (hn : n < 2147483648) : f_X12_in x (nI 0) (nI n - nI 1) = fun _ => some (nI (idx x n).toNat) := by
  rcases Nat.eq_zero_or_pos n with rfl | h
  · rw [show nI 0 - nI 1 = -nI 1 from rfl]; exact rng_c0 x
  · rw [nI_subE h, rng_c x (n - 1) (by omega), Nat.sub_add_cancel h]
/-- from 1 to b -/
def rng1 (x : Int32) (b : Nat) : Bool := decide (¬ x < 0) && (decide (1 ≤ x.toNatClampNeg) && decide (x.toNatClampNeg ≤ b))
theorem rng1_I {j b : Nat} (hj : j < 2147483648) : rng1 (nI j) b = (decide (1 ≤ j) && decide (j ≤ b)) := by
  unfold rng1
  rw [nI_nat hj, decide_eq_true (nI_pos hj)]
  rfl
theorem rng1_neg {x : Int32} {n : Nat} (h : x < 0) : rng1 x n = false := by
  unfold rng1
  rw [decide_eq_false (fun q => q h)]
  rfl
theorem rng1_c (x : Int32) (b : Nat) : (∃ j, 1 ≤ j ∧ j ≤ b ∧ x = nI j ∧ rng1 x b = true) ∨ (rng1 x b = false ∧ (x < 0 ∨ ∃ j, j < 2147483648 ∧ (j < 1 ∨ b < j) ∧ x = nI j)) := by
  by_cases h : x < 0
  · exact Or.inr ⟨rng1_neg h, Or.inl h⟩
  · obtain ⟨j, hj, rfl⟩ := nI_of h
    by_cases hjn : 1 ≤ j ∧ j ≤ b
    · exact Or.inl ⟨j, hjn.1, hjn.2, rfl, by rw [rng1_I hj, decide_eq_true hjn.1, decide_eq_true hjn.2]; rfl⟩
    · refine Or.inr ⟨?_, Or.inr ⟨j, hj, by omega, rfl⟩⟩
      rw [rng1_I hj]
      by_cases h1 : 1 ≤ j
      · rw [decide_eq_true h1, decide_eq_false (by omega)]; rfl
      · rw [decide_eq_false h1]; rfl
theorem rng_1 (x : Int32) (b : Nat) (hb : b < 2147483648) : f_X12_in x (nI 1) (nI b) = fun _ => some (nI (rng1 x b).toNat) := by
  funext M
  unfold f_X12_in
  rw [lit_0, lit_1]
  rcases rng1_c x b with ⟨j, h1, h2, rfl, e⟩ | ⟨e, h | ⟨j, hj, h, rfl⟩⟩
  · rw [e, if_neg (by rw [nI_ltE (by omega) (by omega)]; omega), if_neg (by rw [nI_ltE (by omega) (by omega)]; omega)]; rfl
  · rw [e, if_pos (by rw [(neg_of h (n := 1) (by decide)).2.1]; trivial)]; rfl
  · rw [e]
    rcases h with h | h
    · rw [if_pos (by rw [nI_ltE (by omega) (by omega)]; omega)]; rfl
    · rw [if_neg (by rw [nI_ltE (by omega) (by omega)]; omega), if_pos (by rw [nI_ltE (by omega) (by omega)]; omega)]; rfl
theorem toNat_0 {b : Bool} : (nI b.toNat = nI 0) = (b = false) := by cases b <;> simp [nI_eqE]
theorem c_hasHolder {M : Mem} {g n : Nat} {x : Int32} (h : M g 1 0 = nI n) (hn : n < 2147483648) : f_X6_hasHolder g x M = some (nI (idx x n).toNat) := by
  unfold f_X6_hasHolder
  rw [h, lit_0, lit_1]
  rcases idx_c x n hn with ⟨j, h1, rfl, e⟩ | ⟨e, h | ⟨j, hj, h, rfl⟩⟩
  · rw [e, if_neg (by rw [nI_ltE (by omega) (by omega)]; omega), if_neg (by rw [nI_leE (by omega) (by omega)]; omega)]; rfl
  · rw [e, if_pos (by rw [← lit_0]; exact h)]; rfl
  · rw [e, if_neg (by rw [nI_ltE (by omega) (by omega)]; omega), if_pos (by rw [nI_leE (by omega) (by omega)]; omega)]; rfl
theorem c_hasGuard {M : Mem} {g n : Nat} {x : Int32} (h : M g 6 4 = nI n) (hn : n < 2147483648) : f_X1_hasGuard g x M = some (nI (idx x n).toNat) := by
  unfold f_X1_hasGuard
  rw [h, lit_0, lit_1]
  rcases idx_c x n hn with ⟨j, h1, rfl, e⟩ | ⟨e, h | ⟨j, hj, h, rfl⟩⟩
  · rw [e, if_neg (by rw [nI_ltE (by omega) (by omega)]; omega), if_neg (by rw [nI_leE (by omega) (by omega)]; omega)]; rfl
  · rw [e, if_pos (by rw [← lit_0]; exact h)]; rfl
  · rw [e, if_neg (by rw [nI_ltE (by omega) (by omega)]; omega), if_pos (by rw [nI_leE (by omega) (by omega)]; omega)]; rfl
theorem c_isResidue {M : Mem} {x : Int32} : f_X6_isResidue x M = some (nI (idx x 97).toNat) := by
  unfold f_X6_isResidue
  rw [lit_0, lit_1, lit_97]
  rcases idx_c x 97 (by decide) with ⟨j, h1, rfl, e⟩ | ⟨e, h | ⟨j, hj, h, rfl⟩⟩
  · rw [e, if_neg (by rw [nI_ltE (by omega) (by omega)]; omega), if_neg (by rw [nI_leE (by omega) (by omega)]; omega)]; rfl
  · rw [e, if_pos (by rw [← lit_0]; exact h)]; rfl
  · rw [e, if_neg (by rw [nI_ltE (by omega) (by omega)]; omega), if_pos (by rw [nI_leE (by omega) (by omega)]; omega)]; rfl
theorem c_hasZone {M : Mem} {x : Int32} : f_X1_hasZone x M = some (nI (idx x 8).toNat) := by
  unfold f_X1_hasZone
  rw [lit_0, lit_1, lit_8]
  rcases idx_c x 8 (by decide) with ⟨j, h1, rfl, e⟩ | ⟨e, h | ⟨j, hj, h, rfl⟩⟩
  · rw [e, if_neg (by rw [nI_ltE (by omega) (by omega)]; omega), if_neg (by rw [nI_leE (by omega) (by omega)]; omega)]; rfl
  · rw [e, if_pos (by rw [← lit_0]; exact h)]; rfl
  · rw [e, if_neg (by rw [nI_ltE (by omega) (by omega)]; omega), if_pos (by rw [nI_leE (by omega) (by omega)]; omega)]; rfl
/-- what stands in the model's row -/
theorem ms_n {M : Mem} {α : Sp} (hS : M 12 48 = enc α) {j : Nat} (h : ¬ (j = 48 ∨ j = 51 ∨ j = 54)) : M 12 48 j = nI (α j) := by rw [hS]; exact enc_n h
theorem m_isHolder {M : Mem} {α : Sp} {x : Int32} (hS : M 12 48 = enc α) (h0 : α 0 < 2147483648) : f_X12_isHolder x M = some (nI (idx x (α 0)).toNat) := by
  unfold f_X12_isHolder
  simp only [lit_0, lit_1]
  rw [nI_mix (by decide) (by decide), nI_nat (by decide), ms_n hS (by decide), rng_s x _ h0]
  exact mnz_eq (by cases idx x (α 0) <;> decide)
theorem m_isGuard {M : Mem} {α : Sp} {x : Int32} (hS : M 12 48 = enc α) (h0 : α 10 < 2147483648) : f_X12_isGuard x M = some (nI (idx x (α 10)).toNat) := by
  unfold f_X12_isGuard
  simp only [lit_0, lit_1, lit_10]
  rw [nI_mix (by decide) (by decide), nI_nat (by decide), ms_n hS (by decide), rng_s x _ h0]
  exact mnz_eq (by cases idx x (α 10) <;> decide)
theorem m_isZone {M : Mem} {x : Int32} : f_X12_isZone x M = some (nI (idx x 8).toNat) := by
  unfold f_X12_isZone
  simp only [lit_0, lit_7]
  rw [rng_c x 7 (by decide)]
  exact mnz_eq (by cases idx x (7 + 1) <;> decide)
/-! keys -/
def pl (α : Sp) (h : Nat) : Option Nat := fnd (fun k => decide (α (23 + k) = h)) 0 (α 9)
def oI : Option Nat → Int32
  | some k => nI k
  | none => -nI 1
theorem c_placeOf {M : Mem} {α : Sp} {g h : Nat} (hR : Rk (M g) α) (h9 : α 9 ≤ 8) (hh : h < 2147483648) (hb : ∀ k, k < α 9 → α (23 + k) < 2147483648) : f_X6_placeOf g (nI h) M = some (oI (pl α h)) := by
  obtain ⟨-, -, -, r4, -, -, r7⟩ := hR
  unfold f_X6_placeOf
  have key := floop (F := fun n x kk => f_X6_placeOf_L2 g (nI h) M n x kk) (c := α 9) (fun k => decide (α (23 + k) = h)) (fun k => nI k) (fun n x kk hx => by
    have e1 := r7 x (by omega) hx
    have b1 := hb x hx
    rw [f_X6_placeOf_L2.eq_2]
    have hle : ¬ α 9 ≤ x := by omega
    simp (disch := omega) only [lit_0, lit_1, lit_2, lit_3, lit_4, lit_5, lit_6, lit_7, lit_8, lit_9, lit_10, lit_11, lit_12, lit_13, lit_14, lit_15, lit_16, lit_20, lit_23, lit_24, lit_31, lit_32, lit_39, lit_43, lit_45, lit_47, lit_48, lit_56, lit_57, lit_59, lit_60, lit_62, lit_63, lit_89, lit_92, lit_96, lit_97, lit_99, lit_100, lit_102, lit_103, lit_104, lit_110, lit_111, lit_115, lit_117, lit_194, lit_200, lit_644, lit_736, lit_999, lit_1000, lit_9999, lit_10000, lit_1000000000, ↓wp_mlet, ↓wp_mbp, ↓wp_ite, ↓wp_mix, ↓wp_mdiv, ↓wp_mnz, ↓wp_some, ↓wp_mbnd, ↓mlet_eq, ↓mbp_eq, ↓mbnd_eq, ↓mix_ite, ↓mdiv_ite, ↓mnz_ite, nI_add, nI_mul, nI_nat, nI_ltE, nI_leE, nI_eqE, nI_eqN, nI_Neq, nI_Nlt, nI_Nle, nI_ltN, nI_leN, ↓reduceIte, ↓Nat.reduceEqDiff, and_f, nt_e, nt_t, nl_t, nl_f, ne_t, ne_f, and_self, or_self, or_true, true_or, or_false, false_or, if_true, if_false, and_true, true_and, and_false, false_and, not_true, not_false_iff, r4, e1, hle, decide_eq_true_eq]) (fun n kk => by
    rw [f_X6_placeOf_L2.eq_2]
    simp only [r4]
    rw [if_pos (by rw [nI_leE (by omega) (by omega)]; omega)])
  have := key (α 9) 1000 0 (fun _ => some (-nI 1)) (by omega) (by omega)
  rw [lit_0, lit_1, this]
  unfold pl oI
  cases fnd (fun k => decide (α (23 + k) = h)) 0 (α 9) <;> rfl
theorem m_placeOf {M : Mem} {α : Sp} {h : Nat} (hS : M 12 48 = enc α) (h9 : α 9 ≤ 8) (hh : h < 2147483648) (hb : ∀ k, k < α 9 → α (23 + k) < 2147483648) : f_X12_placeOf (nI h) M = some (oI (pl α h)) := by
  unfold f_X12_placeOf
  have key := floop (F := fun n x kk => f_X12_placeOf_L2 (nI h) M n x kk) (c := α 9) (fun k => decide (α (23 + k) = h)) (fun k => nI k) (fun n x kk hx => by
    have b1 := hb x hx
    rw [f_X12_placeOf_L2.eq_2]
    have hle : ¬ α 9 ≤ x := by omega
    simp (disch := omega) only [lit_0, lit_1, lit_2, lit_3, lit_4, lit_5, lit_6, lit_7, lit_8, lit_9, lit_10, lit_11, lit_12, lit_13, lit_14, lit_15, lit_16, lit_20, lit_23, lit_24, lit_31, lit_32, lit_39, lit_43, lit_45, lit_47, lit_48, lit_56, lit_57, lit_59, lit_60, lit_62, lit_63, lit_89, lit_92, lit_96, lit_97, lit_99, lit_100, lit_102, lit_103, lit_104, lit_110, lit_111, lit_115, lit_117, lit_194, lit_200, lit_644, lit_736, lit_999, lit_1000, lit_9999, lit_10000, lit_1000000000, ↓wp_mlet, ↓wp_mbp, ↓wp_ite, ↓wp_mix, ↓wp_mdiv, ↓wp_mnz, ↓wp_some, ↓wp_mbnd, ↓mlet_eq, ↓mbp_eq, ↓mbnd_eq, ↓mix_ite, ↓mdiv_ite, ↓mnz_ite, nI_add, nI_mul, nI_nat, nI_ltE, nI_leE, nI_eqE, nI_eqN, nI_Neq, nI_Nlt, nI_Nle, nI_ltN, nI_leN, ↓reduceIte, ↓Nat.reduceEqDiff, and_f, nt_e, nt_t, nl_t, nl_f, ne_t, ne_f, and_self, or_self, or_true, true_or, or_false, false_or, if_true, if_false, and_true, true_and, and_false, false_and, not_true, not_false_iff, ms_n hS, hle, decide_eq_true_eq]) (fun n kk => by
    rw [f_X12_placeOf_L2.eq_2]
    simp (disch := omega) only [lit_0, lit_1, lit_2, lit_3, lit_4, lit_5, lit_6, lit_7, lit_8, lit_9, lit_10, lit_11, lit_12, lit_13, lit_14, lit_15, lit_16, lit_20, lit_23, lit_24, lit_31, lit_32, lit_39, lit_43, lit_45, lit_47, lit_48, lit_56, lit_57, lit_59, lit_60, lit_62, lit_63, lit_89, lit_92, lit_96, lit_97, lit_99, lit_100, lit_102, lit_103, lit_104, lit_110, lit_111, lit_115, lit_117, lit_194, lit_200, lit_644, lit_736, lit_999, lit_1000, lit_9999, lit_10000, lit_1000000000, ↓wp_mlet, ↓wp_mbp, ↓wp_ite, ↓wp_mix, ↓wp_mdiv, ↓wp_mnz, ↓wp_some, ↓wp_mbnd, ↓mlet_eq, ↓mbp_eq, ↓mbnd_eq, ↓mix_ite, ↓mdiv_ite, ↓mnz_ite, nI_add, nI_mul, nI_nat, nI_ltE, nI_leE, nI_eqE, nI_eqN, nI_Neq, nI_Nlt, nI_Nle, nI_ltN, nI_leN, ↓reduceIte, ↓Nat.reduceEqDiff, and_f, nt_e, nt_t, nl_t, nl_f, ne_t, ne_f, and_self, or_self, or_true, true_or, or_false, false_or, if_true, if_false, and_true, true_and, and_false, false_and, not_true, not_false_iff, ms_n hS, Nat.le_refl])
  have := key (α 9) 1000 0 (fun _ => some (-nI 1)) (by omega) (by omega)
  rw [lit_0, lit_1, this]
  unfold pl oI
  cases fnd (fun k => decide (α (23 + k) = h)) 0 (α 9) <;> rfl
/-! rows that a loop fills -/
def fil (M : Mem) (g i lo x : Nat) (f : Nat → Int32) : Mem := fun a b c => if a = g ∧ b = i ∧ lo ≤ c ∧ c < x then f c else M a b c
theorem fil_at (M : Mem) (g i lo x : Nat) (f : Nat → Int32) (a b c : Nat) : fil M g i lo x f a b c = if a = g ∧ b = i ∧ lo ≤ c ∧ c < x then f c else M a b c := Eq.trans rfl rfl
theorem fil_0 {M : Mem} {g i lo : Nat} {f : Nat → Int32} : fil M g i lo lo f = M := by
  funext a b c
  rw [fil_at, if_neg (by omega)]
theorem fil_s {M : Mem} {g i lo x : Nat} {f : Nat → Int32} {v : Int32} (hx : lo ≤ x) (hv : v = f x) : mup (fil M g i lo x f) g i x v = fil M g i lo (x + 1) f := by
  funext a b c
  rw [mup_at, fil_at, fil_at]
  by_cases h : a = g ∧ b = i ∧ c = x
  · rw [if_pos h, if_pos ⟨h.1, h.2.1, by omega, by omega⟩, hv, h.2.2]
  · rw [if_neg h]
    by_cases h2 : a = g ∧ b = i ∧ lo ≤ c ∧ c < x
    · rw [if_pos h2, if_pos ⟨h2.1, h2.2.1, h2.2.2.1, by omega⟩]
    · rw [if_neg h2, if_neg (fun q => h2 ⟨q.1, q.2.1, q.2.2.1, Nat.lt_of_le_of_ne (by omega) (fun z => h ⟨q.1, q.2.1, z⟩)⟩)]
theorem fil_ne {M : Mem} {g i lo x a b : Nat} {f : Nat → Int32} (h : ¬ (a = g ∧ b = i)) : fil M g i lo x f a b = M a b := by
  funext c
  rw [fil_at, if_neg (fun q => h ⟨q.1, q.2.1⟩)]
theorem fil_g {M : Mem} {g i lo x a : Nat} {f : Nat → Int32} (h : ¬ a = g) : fil M g i lo x f a = M a := by
  funext b
  exact fil_ne (fun q => h q.1)
theorem mloopL {σ β : Type} {F : Nat → Int32 → σ → (σ → Option β) → Option β} {c : Nat} (lo : Nat) (s : Nat → σ) (hs : ∀ (n x : Nat) (kk : σ → Option β), lo ≤ x → x < c → F (n + 1) (nI x) (s x) kk = F n (nI (x + 1)) (s (x + 1)) kk) (he : ∀ (n : Nat) (kk : σ → Option β), F (n + 1) (nI c) (s c) kk = kk (s c)) :
    ∀ (d n x : Nat) (kk : σ → Option β), lo ≤ x → x + d = c → d < n → F n (nI x) (s x) kk = kk (s c) := by
  intro d
  induction d with
  | zero =>
    intro n x kk h0 h1 h2
    obtain rfl : x = c := by omega
    obtain ⟨m, rfl⟩ : ∃ m, n = m + 1 := ⟨n - 1, by omega⟩
    exact he m kk
  | succ d ih =>
    intro n x kk h0 h1 h2
    obtain ⟨m, rfl⟩ : ∃ m, n = m + 1 := ⟨n - 1, by omega⟩
    rw [hs m x kk h0 (by omega)]
    exact ih m (x + 1) kk (by omega) (by omega) (by omega)
theorem c_valueOn {M : Mem} {ga ia x p0 p1 p2 : Nat} (h0 : M ga ia 0 = nI p0) (h1 : M ga ia 1 = nI p1) (h2 : M ga ia 2 = nI p2) (b0 : p0 ≤ 96) (b1 : p1 ≤ 96) (b2 : p2 ≤ 96) (hx : x ≤ 100) : f_X6_valueOn ga ia (nI x) M = some (nI (((p2 * x + p1) % 97 * x + p0) % 97)) := by
  have m1 : p2 * x ≤ 96 * 100 := Nat.mul_le_mul b2 hx
  have m3 : (p2 * x + p1) % 97 ≤ 96 := by omega
  have m2 : (p2 * x + p1) % 97 * x ≤ 96 * 100 := Nat.mul_le_mul m3 hx
  have e2 : p2 % 97 = p2 := Nat.mod_eq_of_lt (by omega)
  unfold f_X6_valueOn
  simp (disch := omega) only [lit_0, lit_1, lit_2, lit_3, lit_4, lit_5, lit_6, lit_7, lit_8, lit_9, lit_10, lit_11, lit_12, lit_13, lit_14, lit_15, lit_16, lit_20, lit_23, lit_24, lit_31, lit_32, lit_39, lit_43, lit_45, lit_47, lit_48, lit_56, lit_57, lit_59, lit_60, lit_62, lit_63, lit_89, lit_92, lit_96, lit_97, lit_99, lit_100, lit_102, lit_103, lit_104, lit_110, lit_111, lit_115, lit_117, lit_194, lit_200, lit_644, lit_736, lit_999, lit_1000, lit_9999, lit_10000, lit_1000000000, ↓wp_mlet, ↓wp_mbp, ↓wp_ite, ↓wp_mix, ↓wp_mdiv, ↓wp_mnz, ↓wp_some, ↓wp_mbnd, ↓mlet_eq, ↓mbp_eq, ↓mbnd_eq, ↓mix_ite, ↓mdiv_ite, ↓mnz_ite, nI_add, nI_mul, nI_nat, nI_ltE, nI_leE, nI_eqE, nI_eqN, nI_Neq, nI_Nlt, nI_Nle, nI_ltN, nI_leN, ↓reduceIte, ↓Nat.reduceEqDiff, and_f, nt_e, nt_t, nl_t, nl_f, ne_t, ne_f, and_self, or_self, or_true, true_or, or_false, false_or, if_true, if_false, and_true, true_and, and_false, false_and, not_true, not_false_iff, nI_subE, Nat.reduceSub]
  rw [f_X6_valueOn_L7.eq_2]
  simp (disch := omega) only [lit_0, lit_1, lit_2, lit_3, lit_4, lit_5, lit_6, lit_7, lit_8, lit_9, lit_10, lit_11, lit_12, lit_13, lit_14, lit_15, lit_16, lit_20, lit_23, lit_24, lit_31, lit_32, lit_39, lit_43, lit_45, lit_47, lit_48, lit_56, lit_57, lit_59, lit_60, lit_62, lit_63, lit_89, lit_92, lit_96, lit_97, lit_99, lit_100, lit_102, lit_103, lit_104, lit_110, lit_111, lit_115, lit_117, lit_194, lit_200, lit_644, lit_736, lit_999, lit_1000, lit_9999, lit_10000, lit_1000000000, ↓wp_mlet, ↓wp_mbp, ↓wp_ite, ↓wp_mix, ↓wp_mdiv, ↓wp_mnz, ↓wp_some, ↓wp_mbnd, ↓mlet_eq, ↓mbp_eq, ↓mbnd_eq, ↓mix_ite, ↓mdiv_ite, ↓mnz_ite, nI_add, nI_mul, nI_nat, nI_ltE, nI_leE, nI_eqE, nI_eqN, nI_Neq, nI_Nlt, nI_Nle, nI_ltN, nI_leN, ↓reduceIte, ↓Nat.reduceEqDiff, and_f, nt_e, nt_t, nl_t, nl_f, ne_t, ne_f, and_self, or_self, or_true, true_or, or_false, false_or, if_true, if_false, and_true, true_and, and_false, false_and, not_true, not_false_iff, nI_m1, h2, nI_rem, e2, Nat.zero_mul, Nat.zero_add, Nat.reduceSub]
  rw [f_X6_valueOn_L7.eq_2]
  simp (disch := omega) only [lit_0, lit_1, lit_2, lit_3, lit_4, lit_5, lit_6, lit_7, lit_8, lit_9, lit_10, lit_11, lit_12, lit_13, lit_14, lit_15, lit_16, lit_20, lit_23, lit_24, lit_31, lit_32, lit_39, lit_43, lit_45, lit_47, lit_48, lit_56, lit_57, lit_59, lit_60, lit_62, lit_63, lit_89, lit_92, lit_96, lit_97, lit_99, lit_100, lit_102, lit_103, lit_104, lit_110, lit_111, lit_115, lit_117, lit_194, lit_200, lit_644, lit_736, lit_999, lit_1000, lit_9999, lit_10000, lit_1000000000, ↓wp_mlet, ↓wp_mbp, ↓wp_ite, ↓wp_mix, ↓wp_mdiv, ↓wp_mnz, ↓wp_some, ↓wp_mbnd, ↓mlet_eq, ↓mbp_eq, ↓mbnd_eq, ↓mix_ite, ↓mdiv_ite, ↓mnz_ite, nI_add, nI_mul, nI_nat, nI_ltE, nI_leE, nI_eqE, nI_eqN, nI_Neq, nI_Nlt, nI_Nle, nI_ltN, nI_leN, ↓reduceIte, ↓Nat.reduceEqDiff, and_f, nt_e, nt_t, nl_t, nl_f, ne_t, ne_f, and_self, or_self, or_true, true_or, or_false, false_or, if_true, if_false, and_true, true_and, and_false, false_and, not_true, not_false_iff, nI_m1, h1, nI_rem, Nat.reduceSub]
  rw [f_X6_valueOn_L7.eq_2]
  simp (disch := omega) only [lit_0, lit_1, lit_2, lit_3, lit_4, lit_5, lit_6, lit_7, lit_8, lit_9, lit_10, lit_11, lit_12, lit_13, lit_14, lit_15, lit_16, lit_20, lit_23, lit_24, lit_31, lit_32, lit_39, lit_43, lit_45, lit_47, lit_48, lit_56, lit_57, lit_59, lit_60, lit_62, lit_63, lit_89, lit_92, lit_96, lit_97, lit_99, lit_100, lit_102, lit_103, lit_104, lit_110, lit_111, lit_115, lit_117, lit_194, lit_200, lit_644, lit_736, lit_999, lit_1000, lit_9999, lit_10000, lit_1000000000, ↓wp_mlet, ↓wp_mbp, ↓wp_ite, ↓wp_mix, ↓wp_mdiv, ↓wp_mnz, ↓wp_some, ↓wp_mbnd, ↓mlet_eq, ↓mbp_eq, ↓mbnd_eq, ↓mix_ite, ↓mdiv_ite, ↓mnz_ite, nI_add, nI_mul, nI_nat, nI_ltE, nI_leE, nI_eqE, nI_eqN, nI_Neq, nI_Nlt, nI_Nle, nI_ltN, nI_leN, ↓reduceIte, ↓Nat.reduceEqDiff, and_f, nt_e, nt_t, nl_t, nl_f, ne_t, ne_f, and_self, or_self, or_true, true_or, or_false, false_or, if_true, if_false, and_true, true_and, and_false, false_and, not_true, not_false_iff, nI_m1, h0, nI_rem, Nat.reduceSub]
  rw [f_X6_valueOn_L7.eq_2, if_pos (by decide)]
theorem hor_eq (p0 p1 p2 x : Nat) : ((p2 * x + p1) % 97 * x + p0) % 97 = (p0 + p1 * x + p2 * x * x) % 97 := by
  rw [Nat.add_mod, Nat.mul_mod, Nat.mod_mod, ← Nat.mul_mod, ← Nat.add_mod, Nat.add_mul]
  congr 1
  omega
theorem c_correct {M : Mem} {g h : Nat} {α : Sp} (hh : h ≤ 50) (hc : ∀ k, k < 3 → M g 3 k = nI (α (2 + k))) (b0 : α 2 ≤ 96) (b1 : α 3 ≤ 96) (b2 : α 4 ≤ 96) : f_X6_correctShare g (nI h) M = some (nI (crv α h)) := by
  unfold f_X6_correctShare f_X6_positionOf
  rw [lit_1, nI_add, mbp_eq, c_valueOn (hc 0 (by decide)) (hc 1 (by decide)) (hc 2 (by decide)) b0 b1 b2 (by omega), mbp_eq, hor_eq]
  rfl
theorem m_curve {M : Mem} {h : Nat} {α : Sp} (hh : h ≤ 50) (hS : M 12 48 = enc α) (b0 : α 2 ≤ 96) (b1 : α 3 ≤ 96) (b2 : α 4 ≤ 96) : f_X12_curve (nI h) M = some (nI (crv α h)) := by
  have m1 : α 3 * (h + 1) ≤ 96 * 51 := Nat.mul_le_mul b1 (by omega)
  have m2 : α 4 * (h + 1) ≤ 96 * 51 := Nat.mul_le_mul b2 (by omega)
  have m3 : α 4 * (h + 1) * (h + 1) ≤ 96 * 51 * 51 := Nat.mul_le_mul m2 (by omega)
  unfold f_X12_curve crv
  simp (disch := omega) only [lit_0, lit_1, lit_2, lit_3, lit_4, lit_5, lit_6, lit_7, lit_8, lit_9, lit_10, lit_11, lit_12, lit_13, lit_14, lit_15, lit_16, lit_20, lit_23, lit_24, lit_31, lit_32, lit_39, lit_43, lit_45, lit_47, lit_48, lit_56, lit_57, lit_59, lit_60, lit_62, lit_63, lit_89, lit_92, lit_96, lit_97, lit_99, lit_100, lit_102, lit_103, lit_104, lit_110, lit_111, lit_115, lit_117, lit_194, lit_200, lit_644, lit_736, lit_999, lit_1000, lit_9999, lit_10000, lit_1000000000, ↓wp_mlet, ↓wp_mbp, ↓wp_ite, ↓wp_mix, ↓wp_mdiv, ↓wp_mnz, ↓wp_some, ↓wp_mbnd, ↓mlet_eq, ↓mbp_eq, ↓mbnd_eq, ↓mix_ite, ↓mdiv_ite, ↓mnz_ite, nI_add, nI_mul, nI_nat, nI_ltE, nI_leE, nI_eqE, nI_eqN, nI_Neq, nI_Nlt, nI_Nle, nI_ltN, nI_leN, ↓reduceIte, ↓Nat.reduceEqDiff, and_f, nt_e, nt_t, nl_t, nl_f, ne_t, ne_f, and_self, or_self, or_true, true_or, or_false, false_or, if_true, if_false, and_true, true_and, and_false, false_and, not_true, not_false_iff, ms_n hS, nI_rem]
theorem crv_lt (α : Sp) (h : Nat) : crv α h ≤ 96 := by unfold crv; omega
theorem c_add {M : Mem} {α : Sp} {H : Nat} (hR : RC (M 0) α) (hi : Inv H α) : CT M 8 (sAdd α) (f_X9_tryHolder 0 M) := by
  obtain ⟨hk, hd, hb, hj⟩ := hR
  obtain ⟨r0, r1, r3, r5, r2, rc, r4⟩ := id hk
  obtain ⟨⟨b0, b1, b2, b3, b4, b5, b6, b7, b8, b9, b10, b11, b14⟩, -, -, bs, bk, -, -, -, -, -⟩ := hi
  unfold sAdd f_X9_tryHolder
  by_cases h8 : α 0 = 8
  · rw [if_pos h8]
    refine ⟨?_, fun _ => ?_⟩
    · simp (disch := omega) only [lit_0, lit_1, lit_2, lit_3, lit_4, lit_5, lit_6, lit_7, lit_8, lit_9, lit_10, lit_11, lit_12, lit_13, lit_14, lit_15, lit_16, lit_20, lit_23, lit_24, lit_31, lit_32, lit_39, lit_43, lit_45, lit_47, lit_48, lit_56, lit_57, lit_59, lit_60, lit_62, lit_63, lit_89, lit_92, lit_96, lit_97, lit_99, lit_100, lit_102, lit_103, lit_104, lit_110, lit_111, lit_115, lit_117, lit_194, lit_200, lit_644, lit_736, lit_999, lit_1000, lit_9999, lit_10000, lit_1000000000, ↓wp_mlet, ↓wp_mbp, ↓wp_ite, ↓wp_mix, ↓wp_mdiv, ↓wp_mnz, ↓wp_some, ↓wp_mbnd, ↓mlet_eq, ↓mbp_eq, ↓mbnd_eq, ↓mix_ite, ↓mdiv_ite, ↓mnz_ite, nI_add, nI_mul, nI_nat, nI_ltE, nI_leE, nI_eqE, nI_eqN, nI_Neq, nI_Nlt, nI_Nle, nI_ltN, nI_leN, ↓reduceIte, ↓Nat.reduceEqDiff, and_f, nt_e, nt_t, nl_t, nl_f, ne_t, ne_f, and_self, or_self, or_true, true_or, or_false, false_or, if_true, if_false, and_true, true_and, and_false, false_and, not_true, not_false_iff, r0, h8]
      rfl
    · rfl
  · rw [if_neg h8]
    unfold CT
    have hc := c_correct (M := mup M 0 1 0 (nI (α 0 + 1))) (g := 0) (h := α 0) (α := α) (by omega) (fun k hk => by rw [pm_ne (by decide)]; exact rc k hk) b2 b3 b4
    have hlt : α 0 < 8 := by omega
    simp (disch := omega) only [lit_0, lit_1, lit_2, lit_3, lit_4, lit_5, lit_6, lit_7, lit_8, lit_9, lit_10, lit_11, lit_12, lit_13, lit_14, lit_15, lit_16, lit_20, lit_23, lit_24, lit_31, lit_32, lit_39, lit_43, lit_45, lit_47, lit_48, lit_56, lit_57, lit_59, lit_60, lit_62, lit_63, lit_89, lit_92, lit_96, lit_97, lit_99, lit_100, lit_102, lit_103, lit_104, lit_110, lit_111, lit_115, lit_117, lit_194, lit_200, lit_644, lit_736, lit_999, lit_1000, lit_9999, lit_10000, lit_1000000000, ↓wp_mlet, ↓wp_mbp, ↓wp_ite, ↓wp_mix, ↓wp_mdiv, ↓wp_mnz, ↓wp_some, ↓wp_mbnd, ↓mlet_eq, ↓mbp_eq, ↓mbnd_eq, ↓mix_ite, ↓mdiv_ite, ↓mnz_ite, nI_add, nI_mul, nI_nat, nI_ltE, nI_leE, nI_eqE, nI_eqN, nI_Neq, nI_Nlt, nI_Nle, nI_ltN, nI_leN, ↓reduceIte, ↓Nat.reduceEqDiff, and_f, nt_e, nt_t, nl_t, nl_f, ne_t, ne_f, and_self, or_self, or_true, true_or, or_false, false_or, if_true, if_false, and_true, true_and, and_false, false_and, not_true, not_false_iff, r0, hlt, f_X6_join, hc]
    refine ⟨⟨?_, ?_, ?_, ?_⟩, ?_, ?_⟩
    · refine ⟨?_, ?_, ?_, ?_, fun k hk => ?_, fun k hk => ?_, fun k hk hk9 => ?_⟩
      · simp (disch := omega) only [mup_at, up_at, fil_at, ↓reduceIte, ↓Nat.reduceEqDiff, and_f, nt_e, nt_t, nl_t, nl_f, ne_t, ne_f, and_self, or_self, or_true, true_or, or_false, false_or, if_true, if_false, and_true, true_and, and_false, false_and, not_true, not_false_iff]
      · simp (disch := omega) only [mup_at, up_at, fil_at, ↓reduceIte, ↓Nat.reduceEqDiff, and_f, nt_e, nt_t, nl_t, nl_f, ne_t, ne_f, and_self, or_self, or_true, true_or, or_false, false_or, if_true, if_false, and_true, true_and, and_false, false_and, not_true, not_false_iff, r1]
      · simp (disch := omega) only [mup_at, up_at, fil_at, ↓reduceIte, ↓Nat.reduceEqDiff, and_f, nt_e, nt_t, nl_t, nl_f, ne_t, ne_f, and_self, or_self, or_true, true_or, or_false, false_or, if_true, if_false, and_true, true_and, and_false, false_and, not_true, not_false_iff, r3]
      · simp (disch := omega) only [mup_at, up_at, fil_at, ↓reduceIte, ↓Nat.reduceEqDiff, and_f, nt_e, nt_t, nl_t, nl_f, ne_t, ne_f, and_self, or_self, or_true, true_or, or_false, false_or, if_true, if_false, and_true, true_and, and_false, false_and, not_true, not_false_iff, r5]
      · by_cases hk' : k = α 0
        · subst hk'
          simp (disch := omega) only [mup_at, up_at, fil_at, ↓reduceIte, ↓Nat.reduceEqDiff, and_f, nt_e, nt_t, nl_t, nl_f, ne_t, ne_f, and_self, or_self, or_true, true_or, or_false, false_or, if_true, if_false, and_true, true_and, and_false, false_and, not_true, not_false_iff]
        · simp (disch := omega) only [mup_at, up_at, fil_at, ↓reduceIte, ↓Nat.reduceEqDiff, and_f, nt_e, nt_t, nl_t, nl_f, ne_t, ne_f, and_self, or_self, or_true, true_or, or_false, false_or, if_true, if_false, and_true, true_and, and_false, false_and, not_true, not_false_iff, r2 k hk]
      · simp (disch := omega) only [mup_at, up_at, fil_at, ↓reduceIte, ↓Nat.reduceEqDiff, and_f, nt_e, nt_t, nl_t, nl_f, ne_t, ne_f, and_self, or_self, or_true, true_or, or_false, false_or, if_true, if_false, and_true, true_and, and_false, false_and, not_true, not_false_iff, rc k hk]
      · simp (disch := omega) only [mup_at, up_at, fil_at, ↓reduceIte, ↓Nat.reduceEqDiff, and_f, nt_e, nt_t, nl_t, nl_f, ne_t, ne_f, and_self, or_self, or_true, true_or, or_false, false_or, if_true, if_false, and_true, true_and, and_false, false_and, not_true, not_false_iff] at hk9
        simp (disch := omega) only [mup_at, up_at, fil_at, ↓reduceIte, ↓Nat.reduceEqDiff, and_f, nt_e, nt_t, nl_t, nl_f, ne_t, ne_f, and_self, or_self, or_true, true_or, or_false, false_or, if_true, if_false, and_true, true_and, and_false, false_and, not_true, not_false_iff, r4 k hk hk9]
    · exact Rd.of (by rw [pm_ne (by omega), pm_ne (by omega), pm_ne (by omega)]) (fun j hj => by simp (disch := omega) only [mup_at, up_at, fil_at, ↓reduceIte, ↓Nat.reduceEqDiff, and_f, nt_e, nt_t, nl_t, nl_f, ne_t, ne_f, and_self, or_self, or_true, true_or, or_false, false_or, if_true, if_false, and_true, true_and, and_false, false_and, not_true, not_false_iff]) hd
    · exact Rb.of (fun i _ _ => by rw [pm_ne (by omega), pm_ne (by omega), pm_ne (by omega)]) (fun j hj => by simp (disch := omega) only [mup_at, up_at, fil_at, ↓reduceIte, ↓Nat.reduceEqDiff, and_f, nt_e, nt_t, nl_t, nl_f, ne_t, ne_f, and_self, or_self, or_true, true_or, or_false, false_or, if_true, if_false, and_true, true_and, and_false, false_and, not_true, not_false_iff]) hb
    · exact Rj.of (fun i _ _ => by rw [pm_ne (by omega), pm_ne (by omega), pm_ne (by omega)]) (fun j hj => by simp (disch := omega) only [mup_at, up_at, fil_at, ↓reduceIte, ↓Nat.reduceEqDiff, and_f, nt_e, nt_t, nl_t, nl_f, ne_t, ne_f, and_self, or_self, or_true, true_or, or_false, false_or, if_true, if_false, and_true, true_and, and_false, false_and, not_true, not_false_iff]) hj
    · simp (disch := omega) only [mup_at, up_at, fil_at, ↓reduceIte, ↓Nat.reduceEqDiff, and_f, nt_e, nt_t, nl_t, nl_f, ne_t, ne_f, and_self, or_self, or_true, true_or, or_false, false_or, if_true, if_false, and_true, true_and, and_false, false_and, not_true, not_false_iff]
    · intro a ha
      rw [pm_g ha, pm_g ha, pm_g ha]
theorem m_add {M : Mem} {α : Sp} {H : Nat} (hS : M 12 48 = enc α) (hi : Inv H α) : MT M 1 (sAdd α) (f_X12_adds M) := by
  obtain ⟨⟨b0, b1, b2, b3, b4, b5, b6, b7, b8, b9, b10, b11, b14⟩, -, -, bs, bk, -, -, -, -, -⟩ := hi
  unfold sAdd f_X12_adds
  by_cases h8 : α 0 = 8
  · rw [if_pos h8]
    simp (disch := omega) only [lit_0, lit_1, lit_2, lit_3, lit_4, lit_5, lit_6, lit_7, lit_8, lit_9, lit_10, lit_11, lit_12, lit_13, lit_14, lit_15, lit_16, lit_20, lit_23, lit_24, lit_31, lit_32, lit_39, lit_43, lit_45, lit_47, lit_48, lit_56, lit_57, lit_59, lit_60, lit_62, lit_63, lit_89, lit_92, lit_96, lit_97, lit_99, lit_100, lit_102, lit_103, lit_104, lit_110, lit_111, lit_115, lit_117, lit_194, lit_200, lit_644, lit_736, lit_999, lit_1000, lit_9999, lit_10000, lit_1000000000, ↓wp_mlet, ↓wp_mbp, ↓wp_ite, ↓wp_mix, ↓wp_mdiv, ↓wp_mnz, ↓wp_some, ↓wp_mbnd, ↓mlet_eq, ↓mbp_eq, ↓mbnd_eq, ↓mix_ite, ↓mdiv_ite, ↓mnz_ite, nI_add, nI_mul, nI_nat, nI_ltE, nI_leE, nI_eqE, nI_eqN, nI_Neq, nI_Nlt, nI_Nle, nI_ltN, nI_leN, ↓reduceIte, ↓Nat.reduceEqDiff, and_f, nt_e, nt_t, nl_t, nl_f, ne_t, ne_f, and_self, or_self, or_true, true_or, or_false, false_or, if_true, if_false, and_true, true_and, and_false, false_and, not_true, not_false_iff, ms_n hS, h8]
    exact MT_refused (by decide)
  · rw [if_neg h8]
    unfold MT
    have hc := m_curve (M := M) (h := α 0) (α := α) (by omega) hS b2 b3 b4
    simp (disch := omega) only [lit_0, lit_1, lit_2, lit_3, lit_4, lit_5, lit_6, lit_7, lit_8, lit_9, lit_10, lit_11, lit_12, lit_13, lit_14, lit_15, lit_16, lit_20, lit_23, lit_24, lit_31, lit_32, lit_39, lit_43, lit_45, lit_47, lit_48, lit_56, lit_57, lit_59, lit_60, lit_62, lit_63, lit_89, lit_92, lit_96, lit_97, lit_99, lit_100, lit_102, lit_103, lit_104, lit_110, lit_111, lit_115, lit_117, lit_194, lit_200, lit_644, lit_736, lit_999, lit_1000, lit_9999, lit_10000, lit_1000000000, ↓wp_mlet, ↓wp_mbp, ↓wp_ite, ↓wp_mix, ↓wp_mdiv, ↓wp_mnz, ↓wp_some, ↓wp_mbnd, ↓mlet_eq, ↓mbp_eq, ↓mbnd_eq, ↓mix_ite, ↓mdiv_ite, ↓mnz_ite, nI_add, nI_mul, nI_nat, nI_ltE, nI_leE, nI_eqE, nI_eqN, nI_Neq, nI_Nlt, nI_Nle, nI_ltN, nI_leN, ↓reduceIte, ↓Nat.reduceEqDiff, and_f, nt_e, nt_t, nl_t, nl_f, ne_t, ne_f, and_self, or_self, or_true, true_or, or_false, false_or, if_true, if_false, and_true, true_and, and_false, false_and, not_true, not_false_iff, ms_n hS, h8, hc, f_X12_done]
    refine ⟨?_, ?_, ?_, ?_⟩
    · rw [pm_ne (by omega), pm_self, pm_self, hS, enc_up (by omega), enc_up (by omega)]
    · intro k hk
      simp (disch := omega) only [mup_at, up_at, fil_at, ↓reduceIte, ↓Nat.reduceEqDiff, and_f, nt_e, nt_t, nl_t, nl_f, ne_t, ne_f, and_self, or_self, or_true, true_or, or_false, false_or, if_true, if_false, and_true, true_and, and_false, false_and, not_true, not_false_iff]
    · simp (disch := omega) only [mup_at, up_at, fil_at, ↓reduceIte, ↓Nat.reduceEqDiff, and_f, nt_e, nt_t, nl_t, nl_f, ne_t, ne_f, and_self, or_self, or_true, true_or, or_false, false_or, if_true, if_false, and_true, true_and, and_false, false_and, not_true, not_false_iff]
    · intro a b hab
      rw [pm_ne (by omega), pm_ne (by omega), pm_ne (by omega)]
/-! seal -/
def sealSp (α : Sp) (n1 c1 c2 n4 : Nat) : Sp := fun j => if j = 1 then 1 else if j = 2 then n1 else if j = 3 then c1 else if j = 4 then c2 else if j = 5 then n4 else if j = 6 then 0 else if j = 7 then 0 else if j = 8 then 0 else if j = 9 then 0 else if 23 ≤ j ∧ j < 31 then 0 else if 15 ≤ j ∧ j < 15 + α 0 then (n1 + c1 * (j - 15 + 1) + c2 * (j - 15 + 1) * (j - 15 + 1)) % 97 else α j
theorem sealSp_at (α : Sp) (n1 c1 c2 n4 j : Nat) : sealSp α n1 c1 c2 n4 j = if j = 1 then 1 else if j = 2 then n1 else if j = 3 then c1 else if j = 4 then c2 else if j = 5 then n4 else if j = 6 then 0 else if j = 7 then 0 else if j = 8 then 0 else if j = 9 then 0 else if 23 ≤ j ∧ j < 31 then 0 else if 15 ≤ j ∧ j < 15 + α 0 then (n1 + c1 * (j - 15 + 1) + c2 * (j - 15 + 1) * (j - 15 + 1)) % 97 else α j := Eq.trans rfl rfl
def sSeal (α : Sp) (a1 a2 a3 a4 : Int32) : Ex :=
  if idx a1 97 && (idx a2 97 && (idx a3 97 && rng1 a4 3)) then
    if α 0 < a4.toNatClampNeg then .inl (2, α 0)
    else .inr (α 0, sealSp α a1.toNatClampNeg (if 1 < a4.toNatClampNeg then a2.toNatClampNeg else 0) (if 2 < a4.toNatClampNeg then a3.toNatClampNeg else 0) a4.toNatClampNeg)
  else .inl (21, 0)
def crv3 (c0 c1 c2 h : Nat) : Nat := (c0 + c1 * (h + 1) + c2 * (h + 1) * (h + 1)) % 97
theorem crv_3 (α : Sp) (h : Nat) : crv α h = crv3 (α 2) (α 3) (α 4) h := rfl
/-- the class gives all holders their shares -/
theorem c_fillShares {M : Mem} {N n c0 c1 c2 : Nat} (hN : 1000 = N) (hn : n ≤ 8) (h0 : M 0 1 0 = nI n) (e0 : M 0 3 0 = nI c0) (e1 : M 0 3 1 = nI c1) (e2 : M 0 3 2 = nI c2) (b0 : c0 ≤ 96) (b1 : c1 ≤ 96) (b2 : c2 ≤ 96) (kk : Mem → Option (Unit × Mem)) :
    f_X6_sealWith_L60 0 N (nI 0) M kk = kk (fil M 0 2 0 n (fun h => nI (crv3 c0 c1 c2 h))) := by
  have key := mloop (F := fun n x s kk => f_X6_sealWith_L60 0 n x s kk) (c := n) (fun x => fil M 0 2 0 x (fun h => nI (crv3 c0 c1 c2 h))) (fun m x kk hx => by
    rw [f_X6_sealWith_L60.eq_2]
    have hc := c_correct (M := fil M 0 2 0 x (fun h => nI (crv3 c0 c1 c2 h))) (g := 0) (h := x) (α := fun j => if j = 2 then c0 else if j = 3 then c1 else c2) (by omega) (fun k hk => by
      rw [fil_ne (by decide)]
      rcases (show k = 0 ∨ k = 1 ∨ k = 2 by omega) with rfl | rfl | rfl
      · exact e0
      · exact e1
      · exact e2) b0 b1 b2
    have hs : f_X6_correctShare 0 (nI x) (fil M 0 2 0 x (fun h => nI (crv3 c0 c1 c2 h))) = some (nI (crv3 c0 c1 c2 x)) := hc
    rw [show (fil M 0 2 0 x (fun h => nI (crv3 c0 c1 c2 h))) 0 1 0 = nI n from by rw [fil_ne (by decide)]; exact h0, hs]
    have hle : ¬ n ≤ x := by omega
    simp (disch := omega) only [lit_0, lit_1, lit_2, lit_3, lit_4, lit_5, lit_6, lit_7, lit_8, lit_9, lit_10, lit_11, lit_12, lit_13, lit_14, lit_15, lit_16, lit_20, lit_23, lit_24, lit_31, lit_32, lit_39, lit_43, lit_45, lit_47, lit_48, lit_56, lit_57, lit_59, lit_60, lit_62, lit_63, lit_89, lit_92, lit_96, lit_97, lit_99, lit_100, lit_102, lit_103, lit_104, lit_110, lit_111, lit_115, lit_117, lit_194, lit_200, lit_644, lit_736, lit_999, lit_1000, lit_9999, lit_10000, lit_1000000000, ↓wp_mlet, ↓wp_mbp, ↓wp_ite, ↓wp_mix, ↓wp_mdiv, ↓wp_mnz, ↓wp_some, ↓wp_mbnd, ↓mlet_eq, ↓mbp_eq, ↓mbnd_eq, ↓mix_ite, ↓mdiv_ite, ↓mnz_ite, nI_add, nI_mul, nI_nat, nI_ltE, nI_leE, nI_eqE, nI_eqN, nI_Neq, nI_Nlt, nI_Nle, nI_ltN, nI_leN, ↓reduceIte, ↓Nat.reduceEqDiff, and_f, nt_e, nt_t, nl_t, nl_f, ne_t, ne_f, and_self, or_self, or_true, true_or, or_false, false_or, if_true, if_false, and_true, true_and, and_false, false_and, not_true, not_false_iff, hle]
    rw [fil_s (Nat.zero_le _) rfl]) (fun m kk => by
    rw [f_X6_sealWith_L60.eq_2]
    rw [show (fil M 0 2 0 n (fun h => nI (crv3 c0 c1 c2 h))) 0 1 0 = nI n from by rw [fil_ne (by decide)]; exact h0, if_pos (by rw [nI_leE (by omega) (by omega)]; omega)])
  have := key n N 0 kk (by omega) (by omega)
  rw [fil_0] at this
  exact this
theorem m_fillShares {M : Mem} {N n c0 c1 c2 : Nat} (hN : 1000 = N) (hn : n ≤ 8) (h0 : M 12 48 0 = nI n) (e0 : M 12 48 2 = nI c0) (e1 : M 12 48 3 = nI c1) (e2 : M 12 48 4 = nI c2) (b0 : c0 ≤ 96) (b1 : c1 ≤ 96) (b2 : c2 ≤ 96) (kk : Mem → Option (Int32 × Mem)) :
    f_X12_seals_L152 N (nI 0) M kk = kk (fil M 12 48 15 (15 + n) (fun j => nI (crv3 c0 c1 c2 (j - 15)))) := by
  have key := mloop (F := fun n x s kk => f_X12_seals_L152 n x s kk) (c := n) (fun x => fil M 12 48 15 (15 + x) (fun j => nI (crv3 c0 c1 c2 (j - 15)))) (fun m x kk hx => by
    rw [f_X12_seals_L152.eq_2]
    have q0 : (fil M 12 48 15 (15 + x) (fun j => nI (crv3 c0 c1 c2 (j - 15)))) 12 48 0 = nI n := by rw [fil_at, if_neg (by omega)]; exact h0
    have q2 : (fil M 12 48 15 (15 + x) (fun j => nI (crv3 c0 c1 c2 (j - 15)))) 12 48 2 = nI c0 := by rw [fil_at, if_neg (by omega)]; exact e0
    have q3 : (fil M 12 48 15 (15 + x) (fun j => nI (crv3 c0 c1 c2 (j - 15)))) 12 48 3 = nI c1 := by rw [fil_at, if_neg (by omega)]; exact e1
    have q4 : (fil M 12 48 15 (15 + x) (fun j => nI (crv3 c0 c1 c2 (j - 15)))) 12 48 4 = nI c2 := by rw [fil_at, if_neg (by omega)]; exact e2
    have m1 : c1 * (x + 1) ≤ 96 * 51 := Nat.mul_le_mul b1 (by omega)
    have m2 : c2 * (x + 1) ≤ 96 * 51 := Nat.mul_le_mul b2 (by omega)
    have m3 : c2 * (x + 1) * (x + 1) ≤ 96 * 51 * 51 := Nat.mul_le_mul m2 (by omega)
    have hle : ¬ n ≤ x := by omega
    simp (disch := omega) only [lit_0, lit_1, lit_2, lit_3, lit_4, lit_5, lit_6, lit_7, lit_8, lit_9, lit_10, lit_11, lit_12, lit_13, lit_14, lit_15, lit_16, lit_20, lit_23, lit_24, lit_31, lit_32, lit_39, lit_43, lit_45, lit_47, lit_48, lit_56, lit_57, lit_59, lit_60, lit_62, lit_63, lit_89, lit_92, lit_96, lit_97, lit_99, lit_100, lit_102, lit_103, lit_104, lit_110, lit_111, lit_115, lit_117, lit_194, lit_200, lit_644, lit_736, lit_999, lit_1000, lit_9999, lit_10000, lit_1000000000, ↓wp_mlet, ↓wp_mbp, ↓wp_ite, ↓wp_mix, ↓wp_mdiv, ↓wp_mnz, ↓wp_some, ↓wp_mbnd, ↓mlet_eq, ↓mbp_eq, ↓mbnd_eq, ↓mix_ite, ↓mdiv_ite, ↓mnz_ite, nI_add, nI_mul, nI_nat, nI_ltE, nI_leE, nI_eqE, nI_eqN, nI_Neq, nI_Nlt, nI_Nle, nI_ltN, nI_leN, ↓reduceIte, ↓Nat.reduceEqDiff, and_f, nt_e, nt_t, nl_t, nl_f, ne_t, ne_f, and_self, or_self, or_true, true_or, or_false, false_or, if_true, if_false, and_true, true_and, and_false, false_and, not_true, not_false_iff, q0, q2, q3, q4, hle, f_X12_curve, nI_rem]
    rw [fil_s (by omega) (by rw [show 15 + x - 15 = x by omega]; rfl)]
    rfl) (fun m kk => by
    rw [f_X12_seals_L152.eq_2]
    have q0 : (fil M 12 48 15 (15 + n) (fun j => nI (crv3 c0 c1 c2 (j - 15)))) 12 48 0 = nI n := by rw [fil_at, if_neg (by omega)]; exact h0
    simp (disch := omega) only [lit_0, lit_1, lit_2, lit_3, lit_4, lit_5, lit_6, lit_7, lit_8, lit_9, lit_10, lit_11, lit_12, lit_13, lit_14, lit_15, lit_16, lit_20, lit_23, lit_24, lit_31, lit_32, lit_39, lit_43, lit_45, lit_47, lit_48, lit_56, lit_57, lit_59, lit_60, lit_62, lit_63, lit_89, lit_92, lit_96, lit_97, lit_99, lit_100, lit_102, lit_103, lit_104, lit_110, lit_111, lit_115, lit_117, lit_194, lit_200, lit_644, lit_736, lit_999, lit_1000, lit_9999, lit_10000, lit_1000000000, ↓wp_mlet, ↓wp_mbp, ↓wp_ite, ↓wp_mix, ↓wp_mdiv, ↓wp_mnz, ↓wp_some, ↓wp_mbnd, ↓mlet_eq, ↓mbp_eq, ↓mbnd_eq, ↓mix_ite, ↓mdiv_ite, ↓mnz_ite, nI_add, nI_mul, nI_nat, nI_ltE, nI_leE, nI_eqE, nI_eqN, nI_Neq, nI_Nlt, nI_Nle, nI_ltN, nI_leN, ↓reduceIte, ↓Nat.reduceEqDiff, and_f, nt_e, nt_t, nl_t, nl_f, ne_t, ne_f, and_self, or_self, or_true, true_or, or_false, false_or, if_true, if_false, and_true, true_and, and_false, false_and, not_true, not_false_iff, q0, Nat.le_refl])
  have := key n N 0 kk (by omega) (by omega)
  rw [show 15 + 0 = 15 from rfl, fil_0] at this
  exact this
theorem m_clears {M : Mem} : f_X12_clears M = some ((), mup (fil M 12 48 23 31 (fun _ => nI 0)) 12 48 9 (nI 0)) := by
  unfold f_X12_clears
  have key := mloop (F := fun n x s kk => f_X12_clears_L2 n x s kk) (c := 8) (fun x => fil M 12 48 23 (23 + x) (fun _ => nI 0)) (fun m x kk hx => by
    rw [f_X12_clears_L2.eq_2]
    have hle : ¬ 8 ≤ x := by omega
    simp (disch := omega) only [lit_0, lit_1, lit_2, lit_3, lit_4, lit_5, lit_6, lit_7, lit_8, lit_9, lit_10, lit_11, lit_12, lit_13, lit_14, lit_15, lit_16, lit_20, lit_23, lit_24, lit_31, lit_32, lit_39, lit_43, lit_45, lit_47, lit_48, lit_56, lit_57, lit_59, lit_60, lit_62, lit_63, lit_89, lit_92, lit_96, lit_97, lit_99, lit_100, lit_102, lit_103, lit_104, lit_110, lit_111, lit_115, lit_117, lit_194, lit_200, lit_644, lit_736, lit_999, lit_1000, lit_9999, lit_10000, lit_1000000000, ↓wp_mlet, ↓wp_mbp, ↓wp_ite, ↓wp_mix, ↓wp_mdiv, ↓wp_mnz, ↓wp_some, ↓wp_mbnd, ↓mlet_eq, ↓mbp_eq, ↓mbnd_eq, ↓mix_ite, ↓mdiv_ite, ↓mnz_ite, nI_add, nI_mul, nI_nat, nI_ltE, nI_leE, nI_eqE, nI_eqN, nI_Neq, nI_Nlt, nI_Nle, nI_ltN, nI_leN, ↓reduceIte, ↓Nat.reduceEqDiff, and_f, nt_e, nt_t, nl_t, nl_f, ne_t, ne_f, and_self, or_self, or_true, true_or, or_false, false_or, if_true, if_false, and_true, true_and, and_false, false_and, not_true, not_false_iff, hle]
    rw [fil_s (by omega) rfl]
    rfl) (fun m kk => by
    rw [f_X12_clears_L2.eq_2]
    simp (disch := omega) only [lit_0, lit_1, lit_2, lit_3, lit_4, lit_5, lit_6, lit_7, lit_8, lit_9, lit_10, lit_11, lit_12, lit_13, lit_14, lit_15, lit_16, lit_20, lit_23, lit_24, lit_31, lit_32, lit_39, lit_43, lit_45, lit_47, lit_48, lit_56, lit_57, lit_59, lit_60, lit_62, lit_63, lit_89, lit_92, lit_96, lit_97, lit_99, lit_100, lit_102, lit_103, lit_104, lit_110, lit_111, lit_115, lit_117, lit_194, lit_200, lit_644, lit_736, lit_999, lit_1000, lit_9999, lit_10000, lit_1000000000, ↓wp_mlet, ↓wp_mbp, ↓wp_ite, ↓wp_mix, ↓wp_mdiv, ↓wp_mnz, ↓wp_some, ↓wp_mbnd, ↓mlet_eq, ↓mbp_eq, ↓mbnd_eq, ↓mix_ite, ↓mdiv_ite, ↓mnz_ite, nI_add, nI_mul, nI_nat, nI_ltE, nI_leE, nI_eqE, nI_eqN, nI_Neq, nI_Nlt, nI_Nle, nI_ltN, nI_leN, ↓reduceIte, ↓Nat.reduceEqDiff, and_f, nt_e, nt_t, nl_t, nl_f, ne_t, ne_f, and_self, or_self, or_true, true_or, or_false, false_or, if_true, if_false, and_true, true_and, and_false, false_and, not_true, not_false_iff, Nat.le_refl])
  have := key 8 1000 0 (fun M6 => (mix (9 : Int32) 92 (mlet (mup M6 12 48 (9 : Int32).toNatClampNeg (0 : Int32)) fun M7 => (some ((), M7))))) (by omega) (by omega)
  rw [show 23 + 0 = 23 from rfl, fil_0] at this
  rw [lit_0] at this ⊢
  rw [this]
  simp (disch := omega) only [lit_0, lit_1, lit_2, lit_3, lit_4, lit_5, lit_6, lit_7, lit_8, lit_9, lit_10, lit_11, lit_12, lit_13, lit_14, lit_15, lit_16, lit_20, lit_23, lit_24, lit_31, lit_32, lit_39, lit_43, lit_45, lit_47, lit_48, lit_56, lit_57, lit_59, lit_60, lit_62, lit_63, lit_89, lit_92, lit_96, lit_97, lit_99, lit_100, lit_102, lit_103, lit_104, lit_110, lit_111, lit_115, lit_117, lit_194, lit_200, lit_644, lit_736, lit_999, lit_1000, lit_9999, lit_10000, lit_1000000000, ↓wp_mlet, ↓wp_mbp, ↓wp_ite, ↓wp_mix, ↓wp_mdiv, ↓wp_mnz, ↓wp_some, ↓wp_mbnd, ↓mlet_eq, ↓mbp_eq, ↓mbnd_eq, ↓mix_ite, ↓mdiv_ite, ↓mnz_ite, nI_add, nI_mul, nI_nat, nI_ltE, nI_leE, nI_eqE, nI_eqN, nI_Neq, nI_Nlt, nI_Nle, nI_ltN, nI_leN, ↓reduceIte, ↓Nat.reduceEqDiff, and_f, nt_e, nt_t, nl_t, nl_f, ne_t, ne_f, and_self, or_self, or_true, true_or, or_false, false_or, if_true, if_false, and_true, true_and, and_false, false_and, not_true, not_false_iff]
theorem CT_inl {M : Mem} {subj : Int32} {k d : Nat} {x : Option (Int32 × Mem)} (h : x = some (vc k, M)) (hd : k < 20 → f_X9_detailOf 0 (nI k) subj M = some (nI d)) : CT M subj (.inl (k, d)) x := ⟨h, hd⟩
theorem CT_21 {M : Mem} {subj : Int32} {d : Nat} : CT M subj (.inl (21, d)) (some (-nI 2, M)) := ⟨rfl, fun h => absurd h (by decide)⟩
theorem CT_20 {M : Mem} {subj : Int32} {d : Nat} : CT M subj (.inl (20, d)) (some (-nI 1, M)) := ⟨rfl, fun h => absurd h (by decide)⟩
theorem MT_21 {M : Mem} {c d : Nat} : MT M c (.inl (21, d)) (some (nI c, M)) := rfl
theorem MT_20 {M : Mem} {c d : Nat} : MT M c (.inl (20, d)) (some (nI 1, M)) := rfl
theorem c_sealTail {M : Mem} {α : Sp} {n1 c1 c2 n4 N : Nat} (hN : 1000 = N) (hk : Rk (M 0) α) (hd : Rd (M 0) α) (hb : Rb (M 0) α) (hj : Rj (M 0) α) (b0 : α 0 ≤ 8) (h1 : n1 ≤ 96) (h2 : c1 ≤ 96) (h3 : c2 ≤ 96) :
    wp (f_X6_sealWith_L60 0 N (nI 0) (mup (mup (mup (mup (mup (mup M 0 1 2 (nI 1)) 0 1 3 (nI n4)) 0 3 0 (nI n1)) 0 3 1 (nI c1)) 0 3 2 (nI c2)) 0 1 5 (nI 0)) (fun M19 => some ((), M19))) (fun r M1 => wp (f_X3_shutAnew 0 M1) (fun r M1 => RC (mup M1 0 0 4 (M1 0 1 0) 0) (sealSp α n1 c1 c2 n4) ∧ mup M1 0 0 4 (M1 0 1 0) 0 0 4 = nI (α 0) ∧ ∀ a, a ≠ 0 → mup M1 0 0 4 (M1 0 1 0) a = M a)) := by
  obtain ⟨r0, r1, r3, r5, r2, rc, r4⟩ := id hk
  rw [c_fillShares (n := α 0) (c0 := n1) (c1 := c1) (c2 := c2) hN b0]
  case h0 => simp (disch := omega) only [mup_at, up_at, fil_at, ↓reduceIte, ↓Nat.reduceEqDiff, and_f, nt_e, nt_t, nl_t, nl_f, ne_t, ne_f, and_self, or_self, or_true, true_or, or_false, false_or, if_true, if_false, and_true, true_and, and_false, false_and, not_true, not_false_iff, sealSp_at, r0]
  case e0 => simp (disch := omega) only [mup_at, up_at, fil_at, ↓reduceIte, ↓Nat.reduceEqDiff, and_f, nt_e, nt_t, nl_t, nl_f, ne_t, ne_f, and_self, or_self, or_true, true_or, or_false, false_or, if_true, if_false, and_true, true_and, and_false, false_and, not_true, not_false_iff, sealSp_at]
  case e1 => simp (disch := omega) only [mup_at, up_at, fil_at, ↓reduceIte, ↓Nat.reduceEqDiff, and_f, nt_e, nt_t, nl_t, nl_f, ne_t, ne_f, and_self, or_self, or_true, true_or, or_false, false_or, if_true, if_false, and_true, true_and, and_false, false_and, not_true, not_false_iff, sealSp_at]
  case e2 => simp (disch := omega) only [mup_at, up_at, fil_at, ↓reduceIte, ↓Nat.reduceEqDiff, and_f, nt_e, nt_t, nl_t, nl_f, ne_t, ne_f, and_self, or_self, or_true, true_or, or_false, false_or, if_true, if_false, and_true, true_and, and_false, false_and, not_true, not_false_iff, sealSp_at]
  case b0 => exact h1
  case b1 => exact h2
  case b2 => exact h3
  simp (disch := omega) only [lit_0, lit_1, lit_2, lit_3, lit_4, lit_5, lit_6, lit_7, lit_8, lit_9, lit_10, lit_11, lit_12, lit_13, lit_14, lit_15, lit_16, lit_20, lit_23, lit_24, lit_31, lit_32, lit_39, lit_43, lit_45, lit_47, lit_48, lit_56, lit_57, lit_59, lit_60, lit_62, lit_63, lit_89, lit_92, lit_96, lit_97, lit_99, lit_100, lit_102, lit_103, lit_104, lit_110, lit_111, lit_115, lit_117, lit_194, lit_200, lit_644, lit_736, lit_999, lit_1000, lit_9999, lit_10000, lit_1000000000, ↓wp_mlet, ↓wp_mbp, ↓wp_ite, ↓wp_mix, ↓wp_mdiv, ↓wp_mnz, ↓wp_some, ↓wp_mbnd, ↓mlet_eq, ↓mbp_eq, ↓mbnd_eq, ↓mix_ite, ↓mdiv_ite, ↓mnz_ite, nI_add, nI_mul, nI_nat, nI_ltE, nI_leE, nI_eqE, nI_eqN, nI_Neq, nI_Nlt, nI_Nle, nI_ltN, nI_leN, ↓reduceIte, ↓Nat.reduceEqDiff, and_f, nt_e, nt_t, nl_t, nl_f, ne_t, ne_f, and_self, or_self, or_true, true_or, or_false, false_or, if_true, if_false, and_true, true_and, and_false, false_and, not_true, not_false_iff, f_X3_shutAnew]
  refine ⟨⟨?_, ?_, ?_, ?_⟩, ?_, ?_⟩
  · refine ⟨?_, ?_, ?_, ?_, fun k hk => ?_, fun k hk => ?_, fun k hk hk9 => ?_⟩
    · simp (disch := omega) only [mup_at, up_at, fil_at, ↓reduceIte, ↓Nat.reduceEqDiff, and_f, nt_e, nt_t, nl_t, nl_f, ne_t, ne_f, and_self, or_self, or_true, true_or, or_false, false_or, if_true, if_false, and_true, true_and, and_false, false_and, not_true, not_false_iff, sealSp_at, r0]
    · simp (disch := omega) only [mup_at, up_at, fil_at, ↓reduceIte, ↓Nat.reduceEqDiff, and_f, nt_e, nt_t, nl_t, nl_f, ne_t, ne_f, and_self, or_self, or_true, true_or, or_false, false_or, if_true, if_false, and_true, true_and, and_false, false_and, not_true, not_false_iff, sealSp_at]
    · simp (disch := omega) only [mup_at, up_at, fil_at, ↓reduceIte, ↓Nat.reduceEqDiff, and_f, nt_e, nt_t, nl_t, nl_f, ne_t, ne_f, and_self, or_self, or_true, true_or, or_false, false_or, if_true, if_false, and_true, true_and, and_false, false_and, not_true, not_false_iff, sealSp_at]
    · simp (disch := omega) only [mup_at, up_at, fil_at, ↓reduceIte, ↓Nat.reduceEqDiff, and_f, nt_e, nt_t, nl_t, nl_f, ne_t, ne_f, and_self, or_self, or_true, true_or, or_false, false_or, if_true, if_false, and_true, true_and, and_false, false_and, not_true, not_false_iff, sealSp_at]
    · by_cases hk' : k < α 0
      · simp (disch := omega) only [mup_at, up_at, fil_at, ↓reduceIte, ↓Nat.reduceEqDiff, and_f, nt_e, nt_t, nl_t, nl_f, ne_t, ne_f, and_self, or_self, or_true, true_or, or_false, false_or, if_true, if_false, and_true, true_and, and_false, false_and, not_true, not_false_iff, sealSp_at, crv3, show 15 + k - 15 = k by omega]
      · simp (disch := omega) only [mup_at, up_at, fil_at, ↓reduceIte, ↓Nat.reduceEqDiff, and_f, nt_e, nt_t, nl_t, nl_f, ne_t, ne_f, and_self, or_self, or_true, true_or, or_false, false_or, if_true, if_false, and_true, true_and, and_false, false_and, not_true, not_false_iff, sealSp_at, r2 k hk]
    · rcases (show k = 0 ∨ k = 1 ∨ k = 2 by omega) with rfl | rfl | rfl <;> simp (disch := omega) only [mup_at, up_at, fil_at, ↓reduceIte, ↓Nat.reduceEqDiff, and_f, nt_e, nt_t, nl_t, nl_f, ne_t, ne_f, and_self, or_self, or_true, true_or, or_false, false_or, if_true, if_false, and_true, true_and, and_false, false_and, not_true, not_false_iff, sealSp_at]
    · simp (disch := omega) only [mup_at, up_at, fil_at, ↓reduceIte, ↓Nat.reduceEqDiff, and_f, nt_e, nt_t, nl_t, nl_f, ne_t, ne_f, and_self, or_self, or_true, true_or, or_false, false_or, if_true, if_false, and_true, true_and, and_false, false_and, not_true, not_false_iff, sealSp_at] at hk9
  · refine ⟨?_, ?_, ?_, ?_⟩
    · simp (disch := omega) only [mup_at, up_at, fil_at, ↓reduceIte, ↓Nat.reduceEqDiff, and_f, nt_e, nt_t, nl_t, nl_f, ne_t, ne_f, and_self, or_self, or_true, true_or, or_false, false_or, if_true, if_false, and_true, true_and, and_false, false_and, not_true, not_false_iff, sealSp_at]
    · simp (disch := omega) only [mup_at, up_at, fil_at, ↓reduceIte, ↓Nat.reduceEqDiff, and_f, nt_e, nt_t, nl_t, nl_f, ne_t, ne_f, and_self, or_self, or_true, true_or, or_false, false_or, if_true, if_false, and_true, true_and, and_false, false_and, not_true, not_false_iff, sealSp_at]
    · simp (disch := omega) only [mup_at, up_at, fil_at, ↓reduceIte, ↓Nat.reduceEqDiff, and_f, nt_e, nt_t, nl_t, nl_f, ne_t, ne_f, and_self, or_self, or_true, true_or, or_false, false_or, if_true, if_false, and_true, true_and, and_false, false_and, not_true, not_false_iff, sealSp_at]
    · simp (disch := omega) only [mup_at, up_at, fil_at, ↓reduceIte, ↓Nat.reduceEqDiff, and_f, nt_e, nt_t, nl_t, nl_f, ne_t, ne_f, and_self, or_self, or_true, true_or, or_false, false_or, if_true, if_false, and_true, true_and, and_false, false_and, not_true, not_false_iff, sealSp_at, hd.2.2.2]
  · exact Rb.of (fun i _ _ => by funext c; simp (disch := omega) only [mup_at, up_at, fil_at, ↓reduceIte, ↓Nat.reduceEqDiff, and_f, nt_e, nt_t, nl_t, nl_f, ne_t, ne_f, and_self, or_self, or_true, true_or, or_false, false_or, if_true, if_false, and_true, true_and, and_false, false_and, not_true, not_false_iff, sealSp_at]) (fun j hj => by simp (disch := omega) only [mup_at, up_at, fil_at, ↓reduceIte, ↓Nat.reduceEqDiff, and_f, nt_e, nt_t, nl_t, nl_f, ne_t, ne_f, and_self, or_self, or_true, true_or, or_false, false_or, if_true, if_false, and_true, true_and, and_false, false_and, not_true, not_false_iff, sealSp_at]) hb
  · exact Rj.of (fun i _ _ => by funext c; simp (disch := omega) only [mup_at, up_at, fil_at, ↓reduceIte, ↓Nat.reduceEqDiff, and_f, nt_e, nt_t, nl_t, nl_f, ne_t, ne_f, and_self, or_self, or_true, true_or, or_false, false_or, if_true, if_false, and_true, true_and, and_false, false_and, not_true, not_false_iff, sealSp_at]) (fun j hj => by simp (disch := omega) only [mup_at, up_at, fil_at, ↓reduceIte, ↓Nat.reduceEqDiff, and_f, nt_e, nt_t, nl_t, nl_f, ne_t, ne_f, and_self, or_self, or_true, true_or, or_false, false_or, if_true, if_false, and_true, true_and, and_false, false_and, not_true, not_false_iff, sealSp_at]) hj
  · simp (disch := omega) only [mup_at, up_at, fil_at, ↓reduceIte, ↓Nat.reduceEqDiff, and_f, nt_e, nt_t, nl_t, nl_f, ne_t, ne_f, and_self, or_self, or_true, true_or, or_false, false_or, if_true, if_false, and_true, true_and, and_false, false_and, not_true, not_false_iff, sealSp_at, r0]
  · intro a ha
    funext b c
    simp (disch := omega) only [mup_at, up_at, fil_at, ↓reduceIte, ↓Nat.reduceEqDiff, and_f, nt_e, nt_t, nl_t, nl_f, ne_t, ne_f, and_self, or_self, or_true, true_or, or_false, false_or, if_true, if_false, and_true, true_and, and_false, false_and, not_true, not_false_iff, sealSp_at]
set_option maxHeartbeats 4000000 in
theorem c_seal {M : Mem} {α : Sp} {H : Nat} (hR : RC (M 0) α) (hi : Inv H α) (a1 a2 a3 a4 : Int32) : CT M 0 (sSeal α a1 a2 a3 a4) (f_X9_trySeal 0 a1 a2 a3 a4 M) := by
  obtain ⟨hk, hd, hb, hj⟩ := hR
  obtain ⟨r0, r1, r3, r5, r2, rc, r4⟩ := id hk
  obtain ⟨⟨b0, b1, b2, b3, b4, b5, b6, b7, b8, b9, b10, b11, b14⟩, -, -, bs, bk, -, -, -, -, -⟩ := hi
  unfold sSeal f_X9_trySeal
  simp only [c_isResidue, mbp_eq]
  rcases idx_c a1 97 (by decide) with ⟨n1, h1, rfl, e1⟩ | ⟨e1, -⟩
  case inr =>
    simp (disch := omega) only [lit_0, lit_1, lit_2, lit_3, lit_4, lit_5, lit_6, lit_7, lit_8, lit_9, lit_10, lit_11, lit_12, lit_13, lit_14, lit_15, lit_16, lit_20, lit_23, lit_24, lit_31, lit_32, lit_39, lit_43, lit_45, lit_47, lit_48, lit_56, lit_57, lit_59, lit_60, lit_62, lit_63, lit_89, lit_92, lit_96, lit_97, lit_99, lit_100, lit_102, lit_103, lit_104, lit_110, lit_111, lit_115, lit_117, lit_194, lit_200, lit_644, lit_736, lit_999, lit_1000, lit_9999, lit_10000, lit_1000000000, ↓wp_mlet, ↓wp_mbp, ↓wp_ite, ↓wp_mix, ↓wp_mdiv, ↓wp_mnz, ↓wp_some, ↓wp_mbnd, ↓mlet_eq, ↓mbp_eq, ↓mbnd_eq, ↓mix_ite, ↓mdiv_ite, ↓mnz_ite, nI_add, nI_mul, nI_nat, nI_ltE, nI_leE, nI_eqE, nI_eqN, nI_Neq, nI_Nlt, nI_Nle, nI_ltN, nI_leN, ↓reduceIte, ↓Nat.reduceEqDiff, and_f, nt_e, nt_t, nl_t, nl_f, ne_t, ne_f, and_self, or_self, or_true, true_or, or_false, false_or, if_true, if_false, and_true, true_and, and_false, false_and, not_true, not_false_iff, toNat_0, Bool.false_and, Bool.true_and, Bool.and_false, Bool.and_true, Bool.false_eq_true, reduceCtorEq, Bool.true_eq_false, Bool.not_true, Bool.not_false, e1]
    exact CT_21
  rcases idx_c a2 97 (by decide) with ⟨n2, h2, rfl, e2⟩ | ⟨e2, -⟩
  case inr =>
    simp (disch := omega) only [lit_0, lit_1, lit_2, lit_3, lit_4, lit_5, lit_6, lit_7, lit_8, lit_9, lit_10, lit_11, lit_12, lit_13, lit_14, lit_15, lit_16, lit_20, lit_23, lit_24, lit_31, lit_32, lit_39, lit_43, lit_45, lit_47, lit_48, lit_56, lit_57, lit_59, lit_60, lit_62, lit_63, lit_89, lit_92, lit_96, lit_97, lit_99, lit_100, lit_102, lit_103, lit_104, lit_110, lit_111, lit_115, lit_117, lit_194, lit_200, lit_644, lit_736, lit_999, lit_1000, lit_9999, lit_10000, lit_1000000000, ↓wp_mlet, ↓wp_mbp, ↓wp_ite, ↓wp_mix, ↓wp_mdiv, ↓wp_mnz, ↓wp_some, ↓wp_mbnd, ↓mlet_eq, ↓mbp_eq, ↓mbnd_eq, ↓mix_ite, ↓mdiv_ite, ↓mnz_ite, nI_add, nI_mul, nI_nat, nI_ltE, nI_leE, nI_eqE, nI_eqN, nI_Neq, nI_Nlt, nI_Nle, nI_ltN, nI_leN, ↓reduceIte, ↓Nat.reduceEqDiff, and_f, nt_e, nt_t, nl_t, nl_f, ne_t, ne_f, and_self, or_self, or_true, true_or, or_false, false_or, if_true, if_false, and_true, true_and, and_false, false_and, not_true, not_false_iff, toNat_0, Bool.false_and, Bool.true_and, Bool.and_false, Bool.and_true, Bool.false_eq_true, reduceCtorEq, Bool.true_eq_false, Bool.not_true, Bool.not_false, e1, e2]
    exact CT_21
  rcases idx_c a3 97 (by decide) with ⟨n3, h3, rfl, e3⟩ | ⟨e3, -⟩
  case inr =>
    simp (disch := omega) only [lit_0, lit_1, lit_2, lit_3, lit_4, lit_5, lit_6, lit_7, lit_8, lit_9, lit_10, lit_11, lit_12, lit_13, lit_14, lit_15, lit_16, lit_20, lit_23, lit_24, lit_31, lit_32, lit_39, lit_43, lit_45, lit_47, lit_48, lit_56, lit_57, lit_59, lit_60, lit_62, lit_63, lit_89, lit_92, lit_96, lit_97, lit_99, lit_100, lit_102, lit_103, lit_104, lit_110, lit_111, lit_115, lit_117, lit_194, lit_200, lit_644, lit_736, lit_999, lit_1000, lit_9999, lit_10000, lit_1000000000, ↓wp_mlet, ↓wp_mbp, ↓wp_ite, ↓wp_mix, ↓wp_mdiv, ↓wp_mnz, ↓wp_some, ↓wp_mbnd, ↓mlet_eq, ↓mbp_eq, ↓mbnd_eq, ↓mix_ite, ↓mdiv_ite, ↓mnz_ite, nI_add, nI_mul, nI_nat, nI_ltE, nI_leE, nI_eqE, nI_eqN, nI_Neq, nI_Nlt, nI_Nle, nI_ltN, nI_leN, ↓reduceIte, ↓Nat.reduceEqDiff, and_f, nt_e, nt_t, nl_t, nl_f, ne_t, ne_f, and_self, or_self, or_true, true_or, or_false, false_or, if_true, if_false, and_true, true_and, and_false, false_and, not_true, not_false_iff, toNat_0, Bool.false_and, Bool.true_and, Bool.and_false, Bool.and_true, Bool.false_eq_true, reduceCtorEq, Bool.true_eq_false, Bool.not_true, Bool.not_false, e1, e2, e3]
    exact CT_21
  rcases rng1_c a4 3 with ⟨n4, h4, h4', rfl, e4⟩ | ⟨e4, h4⟩
  case inr =>
    simp (disch := omega) only [lit_0, lit_1, lit_2, lit_3, lit_4, lit_5, lit_6, lit_7, lit_8, lit_9, lit_10, lit_11, lit_12, lit_13, lit_14, lit_15, lit_16, lit_20, lit_23, lit_24, lit_31, lit_32, lit_39, lit_43, lit_45, lit_47, lit_48, lit_56, lit_57, lit_59, lit_60, lit_62, lit_63, lit_89, lit_92, lit_96, lit_97, lit_99, lit_100, lit_102, lit_103, lit_104, lit_110, lit_111, lit_115, lit_117, lit_194, lit_200, lit_644, lit_736, lit_999, lit_1000, lit_9999, lit_10000, lit_1000000000, ↓wp_mlet, ↓wp_mbp, ↓wp_ite, ↓wp_mix, ↓wp_mdiv, ↓wp_mnz, ↓wp_some, ↓wp_mbnd, ↓mlet_eq, ↓mbp_eq, ↓mbnd_eq, ↓mix_ite, ↓mdiv_ite, ↓mnz_ite, nI_add, nI_mul, nI_nat, nI_ltE, nI_leE, nI_eqE, nI_eqN, nI_Neq, nI_Nlt, nI_Nle, nI_ltN, nI_leN, ↓reduceIte, ↓Nat.reduceEqDiff, and_f, nt_e, nt_t, nl_t, nl_f, ne_t, ne_f, and_self, or_self, or_true, true_or, or_false, false_or, if_true, if_false, and_true, true_and, and_false, false_and, not_true, not_false_iff, toNat_0, Bool.false_and, Bool.true_and, Bool.and_false, Bool.and_true, Bool.false_eq_true, reduceCtorEq, Bool.true_eq_false, Bool.not_true, Bool.not_false, e1, e2, e3, e4]
    rcases h4 with h4 | ⟨j, hj, h4, rfl⟩
    · simp (disch := omega) only [lit_0, lit_1, lit_2, lit_3, lit_4, lit_5, lit_6, lit_7, lit_8, lit_9, lit_10, lit_11, lit_12, lit_13, lit_14, lit_15, lit_16, lit_20, lit_23, lit_24, lit_31, lit_32, lit_39, lit_43, lit_45, lit_47, lit_48, lit_56, lit_57, lit_59, lit_60, lit_62, lit_63, lit_89, lit_92, lit_96, lit_97, lit_99, lit_100, lit_102, lit_103, lit_104, lit_110, lit_111, lit_115, lit_117, lit_194, lit_200, lit_644, lit_736, lit_999, lit_1000, lit_9999, lit_10000, lit_1000000000, ↓wp_mlet, ↓wp_mbp, ↓wp_ite, ↓wp_mix, ↓wp_mdiv, ↓wp_mnz, ↓wp_some, ↓wp_mbnd, ↓mlet_eq, ↓mbp_eq, ↓mbnd_eq, ↓mix_ite, ↓mdiv_ite, ↓mnz_ite, nI_add, nI_mul, nI_nat, nI_ltE, nI_leE, nI_eqE, nI_eqN, nI_Neq, nI_Nlt, nI_Nle, nI_ltN, nI_leN, ↓reduceIte, ↓Nat.reduceEqDiff, and_f, nt_e, nt_t, nl_t, nl_f, ne_t, ne_f, and_self, or_self, or_true, true_or, or_false, false_or, if_true, if_false, and_true, true_and, and_false, false_and, not_true, not_false_iff, (neg_of h4 (n := 1) (by decide)).2.1]
      exact CT_21
    · rcases h4 with h4 | h4
      · have q : j < 1 := h4
        simp (disch := omega) only [lit_0, lit_1, lit_2, lit_3, lit_4, lit_5, lit_6, lit_7, lit_8, lit_9, lit_10, lit_11, lit_12, lit_13, lit_14, lit_15, lit_16, lit_20, lit_23, lit_24, lit_31, lit_32, lit_39, lit_43, lit_45, lit_47, lit_48, lit_56, lit_57, lit_59, lit_60, lit_62, lit_63, lit_89, lit_92, lit_96, lit_97, lit_99, lit_100, lit_102, lit_103, lit_104, lit_110, lit_111, lit_115, lit_117, lit_194, lit_200, lit_644, lit_736, lit_999, lit_1000, lit_9999, lit_10000, lit_1000000000, ↓wp_mlet, ↓wp_mbp, ↓wp_ite, ↓wp_mix, ↓wp_mdiv, ↓wp_mnz, ↓wp_some, ↓wp_mbnd, ↓mlet_eq, ↓mbp_eq, ↓mbnd_eq, ↓mix_ite, ↓mdiv_ite, ↓mnz_ite, nI_add, nI_mul, nI_nat, nI_ltE, nI_leE, nI_eqE, nI_eqN, nI_Neq, nI_Nlt, nI_Nle, nI_ltN, nI_leN, ↓reduceIte, ↓Nat.reduceEqDiff, and_f, nt_e, nt_t, nl_t, nl_f, ne_t, ne_f, and_self, or_self, or_true, true_or, or_false, false_or, if_true, if_false, and_true, true_and, and_false, false_and, not_true, not_false_iff, q]
        exact CT_21
      · have q : ¬ j < 1 := by omega
        have q3 : ¬ j ≤ 3 := by omega
        simp (disch := omega) only [lit_0, lit_1, lit_2, lit_3, lit_4, lit_5, lit_6, lit_7, lit_8, lit_9, lit_10, lit_11, lit_12, lit_13, lit_14, lit_15, lit_16, lit_20, lit_23, lit_24, lit_31, lit_32, lit_39, lit_43, lit_45, lit_47, lit_48, lit_56, lit_57, lit_59, lit_60, lit_62, lit_63, lit_89, lit_92, lit_96, lit_97, lit_99, lit_100, lit_102, lit_103, lit_104, lit_110, lit_111, lit_115, lit_117, lit_194, lit_200, lit_644, lit_736, lit_999, lit_1000, lit_9999, lit_10000, lit_1000000000, ↓wp_mlet, ↓wp_mbp, ↓wp_ite, ↓wp_mix, ↓wp_mdiv, ↓wp_mnz, ↓wp_some, ↓wp_mbnd, ↓mlet_eq, ↓mbp_eq, ↓mbnd_eq, ↓mix_ite, ↓mdiv_ite, ↓mnz_ite, nI_add, nI_mul, nI_nat, nI_ltE, nI_leE, nI_eqE, nI_eqN, nI_Neq, nI_Nlt, nI_Nle, nI_ltN, nI_leN, ↓reduceIte, ↓Nat.reduceEqDiff, and_f, nt_e, nt_t, nl_t, nl_f, ne_t, ne_f, and_self, or_self, or_true, true_or, or_false, false_or, if_true, if_false, and_true, true_and, and_false, false_and, not_true, not_false_iff, q, q3]
        exact CT_21
  simp (disch := omega) only [lit_0, lit_1, lit_2, lit_3, lit_4, lit_5, lit_6, lit_7, lit_8, lit_9, lit_10, lit_11, lit_12, lit_13, lit_14, lit_15, lit_16, lit_20, lit_23, lit_24, lit_31, lit_32, lit_39, lit_43, lit_45, lit_47, lit_48, lit_56, lit_57, lit_59, lit_60, lit_62, lit_63, lit_89, lit_92, lit_96, lit_97, lit_99, lit_100, lit_102, lit_103, lit_104, lit_110, lit_111, lit_115, lit_117, lit_194, lit_200, lit_644, lit_736, lit_999, lit_1000, lit_9999, lit_10000, lit_1000000000, ↓wp_mlet, ↓wp_mbp, ↓wp_ite, ↓wp_mix, ↓wp_mdiv, ↓wp_mnz, ↓wp_some, ↓wp_mbnd, ↓mlet_eq, ↓mbp_eq, ↓mbnd_eq, ↓mix_ite, ↓mdiv_ite, ↓mnz_ite, nI_add, nI_mul, nI_nat, nI_ltE, nI_leE, nI_eqE, nI_eqN, nI_Neq, nI_Nlt, nI_Nle, nI_ltN, nI_leN, ↓reduceIte, ↓Nat.reduceEqDiff, and_f, nt_e, nt_t, nl_t, nl_f, ne_t, ne_f, and_self, or_self, or_true, true_or, or_false, false_or, if_true, if_false, and_true, true_and, and_false, false_and, not_true, not_false_iff, toNat_0, Bool.false_and, Bool.true_and, Bool.and_false, Bool.and_true, Bool.false_eq_true, reduceCtorEq, Bool.true_eq_false, Bool.not_true, Bool.not_false, e1, e2, e3, e4, r0]
  have q1 : ¬ n4 < 1 := by omega
  by_cases hlt : α 0 < n4
  · have q2 : ¬ n4 ≤ α 0 := by omega
    simp (disch := omega) only [lit_0, lit_1, lit_2, lit_3, lit_4, lit_5, lit_6, lit_7, lit_8, lit_9, lit_10, lit_11, lit_12, lit_13, lit_14, lit_15, lit_16, lit_20, lit_23, lit_24, lit_31, lit_32, lit_39, lit_43, lit_45, lit_47, lit_48, lit_56, lit_57, lit_59, lit_60, lit_62, lit_63, lit_89, lit_92, lit_96, lit_97, lit_99, lit_100, lit_102, lit_103, lit_104, lit_110, lit_111, lit_115, lit_117, lit_194, lit_200, lit_644, lit_736, lit_999, lit_1000, lit_9999, lit_10000, lit_1000000000, ↓wp_mlet, ↓wp_mbp, ↓wp_ite, ↓wp_mix, ↓wp_mdiv, ↓wp_mnz, ↓wp_some, ↓wp_mbnd, ↓mlet_eq, ↓mbp_eq, ↓mbnd_eq, ↓mix_ite, ↓mdiv_ite, ↓mnz_ite, nI_add, nI_mul, nI_nat, nI_ltE, nI_leE, nI_eqE, nI_eqN, nI_Neq, nI_Nlt, nI_Nle, nI_ltN, nI_leN, ↓reduceIte, ↓Nat.reduceEqDiff, and_f, nt_e, nt_t, nl_t, nl_f, ne_t, ne_f, and_self, or_self, or_true, true_or, or_false, false_or, if_true, if_false, and_true, true_and, and_false, false_and, not_true, not_false_iff, q1, h4', hlt, q2]
    refine CT_inl rfl fun _ => ?_
    unfold f_X9_detailOf
    simp (disch := omega) only [lit_0, lit_1, lit_2, lit_3, lit_4, lit_5, lit_6, lit_7, lit_8, lit_9, lit_10, lit_11, lit_12, lit_13, lit_14, lit_15, lit_16, lit_20, lit_23, lit_24, lit_31, lit_32, lit_39, lit_43, lit_45, lit_47, lit_48, lit_56, lit_57, lit_59, lit_60, lit_62, lit_63, lit_89, lit_92, lit_96, lit_97, lit_99, lit_100, lit_102, lit_103, lit_104, lit_110, lit_111, lit_115, lit_117, lit_194, lit_200, lit_644, lit_736, lit_999, lit_1000, lit_9999, lit_10000, lit_1000000000, ↓wp_mlet, ↓wp_mbp, ↓wp_ite, ↓wp_mix, ↓wp_mdiv, ↓wp_mnz, ↓wp_some, ↓wp_mbnd, ↓mlet_eq, ↓mbp_eq, ↓mbnd_eq, ↓mix_ite, ↓mdiv_ite, ↓mnz_ite, nI_add, nI_mul, nI_nat, nI_ltE, nI_leE, nI_eqE, nI_eqN, nI_Neq, nI_Nlt, nI_Nle, nI_ltN, nI_leN, ↓reduceIte, ↓Nat.reduceEqDiff, and_f, nt_e, nt_t, nl_t, nl_f, ne_t, ne_f, and_self, or_self, or_true, true_or, or_false, false_or, if_true, if_false, and_true, true_and, and_false, false_and, not_true, not_false_iff, r0]
  · have q2 : n4 ≤ α 0 := by omega
    simp (disch := omega) only [lit_0, lit_1, lit_2, lit_3, lit_4, lit_5, lit_6, lit_7, lit_8, lit_9, lit_10, lit_11, lit_12, lit_13, lit_14, lit_15, lit_16, lit_20, lit_23, lit_24, lit_31, lit_32, lit_39, lit_43, lit_45, lit_47, lit_48, lit_56, lit_57, lit_59, lit_60, lit_62, lit_63, lit_89, lit_92, lit_96, lit_97, lit_99, lit_100, lit_102, lit_103, lit_104, lit_110, lit_111, lit_115, lit_117, lit_194, lit_200, lit_644, lit_736, lit_999, lit_1000, lit_9999, lit_10000, lit_1000000000, ↓wp_mlet, ↓wp_mbp, ↓wp_ite, ↓wp_mix, ↓wp_mdiv, ↓wp_mnz, ↓wp_some, ↓wp_mbnd, ↓mlet_eq, ↓mbp_eq, ↓mbnd_eq, ↓mix_ite, ↓mdiv_ite, ↓mnz_ite, nI_add, nI_mul, nI_nat, nI_ltE, nI_leE, nI_eqE, nI_eqN, nI_Neq, nI_Nlt, nI_Nle, nI_ltN, nI_leN, ↓reduceIte, ↓Nat.reduceEqDiff, and_f, nt_e, nt_t, nl_t, nl_f, ne_t, ne_f, and_self, or_self, or_true, true_or, or_false, false_or, if_true, if_false, and_true, true_and, and_false, false_and, not_true, not_false_iff, q1, h4', hlt, q2]
    have hn4 : n4 = 1 ∨ n4 = 2 ∨ n4 = 3 := by omega
    unfold CT f_X6_sealWith
    generalize hN : (1000 : Nat) = N
    rcases hn4 with rfl | rfl | rfl
    · simp (disch := omega) only [lit_0, lit_1, lit_2, lit_3, lit_4, lit_5, lit_6, lit_7, lit_8, lit_9, lit_10, lit_11, lit_12, lit_13, lit_14, lit_15, lit_16, lit_20, lit_23, lit_24, lit_31, lit_32, lit_39, lit_43, lit_45, lit_47, lit_48, lit_56, lit_57, lit_59, lit_60, lit_62, lit_63, lit_89, lit_92, lit_96, lit_97, lit_99, lit_100, lit_102, lit_103, lit_104, lit_110, lit_111, lit_115, lit_117, lit_194, lit_200, lit_644, lit_736, lit_999, lit_1000, lit_9999, lit_10000, lit_1000000000, ↓wp_mlet, ↓wp_mbp, ↓wp_ite, ↓wp_mix, ↓wp_mdiv, ↓wp_mnz, ↓wp_some, ↓wp_mbnd, ↓mlet_eq, ↓mbp_eq, ↓mbnd_eq, ↓mix_ite, ↓mdiv_ite, ↓mnz_ite, nI_add, nI_mul, nI_nat, nI_ltE, nI_leE, nI_eqE, nI_eqN, nI_Neq, nI_Nlt, nI_Nle, nI_ltN, nI_leN, ↓reduceIte, ↓Nat.reduceEqDiff, and_f, nt_e, nt_t, nl_t, nl_f, ne_t, ne_f, and_self, or_self, or_true, true_or, or_false, false_or, if_true, if_false, and_true, true_and, and_false, false_and, not_true, not_false_iff]
      exact c_sealTail (c1 := 0) (c2 := 0) hN hk hd hb hj b0 (by omega) (by omega) (by omega)
    · simp (disch := omega) only [lit_0, lit_1, lit_2, lit_3, lit_4, lit_5, lit_6, lit_7, lit_8, lit_9, lit_10, lit_11, lit_12, lit_13, lit_14, lit_15, lit_16, lit_20, lit_23, lit_24, lit_31, lit_32, lit_39, lit_43, lit_45, lit_47, lit_48, lit_56, lit_57, lit_59, lit_60, lit_62, lit_63, lit_89, lit_92, lit_96, lit_97, lit_99, lit_100, lit_102, lit_103, lit_104, lit_110, lit_111, lit_115, lit_117, lit_194, lit_200, lit_644, lit_736, lit_999, lit_1000, lit_9999, lit_10000, lit_1000000000, ↓wp_mlet, ↓wp_mbp, ↓wp_ite, ↓wp_mix, ↓wp_mdiv, ↓wp_mnz, ↓wp_some, ↓wp_mbnd, ↓mlet_eq, ↓mbp_eq, ↓mbnd_eq, ↓mix_ite, ↓mdiv_ite, ↓mnz_ite, nI_add, nI_mul, nI_nat, nI_ltE, nI_leE, nI_eqE, nI_eqN, nI_Neq, nI_Nlt, nI_Nle, nI_ltN, nI_leN, ↓reduceIte, ↓Nat.reduceEqDiff, and_f, nt_e, nt_t, nl_t, nl_f, ne_t, ne_f, and_self, or_self, or_true, true_or, or_false, false_or, if_true, if_false, and_true, true_and, and_false, false_and, not_true, not_false_iff]
      exact c_sealTail (c1 := n2) (c2 := 0) hN hk hd hb hj b0 (by omega) (by omega) (by omega)
    · simp (disch := omega) only [lit_0, lit_1, lit_2, lit_3, lit_4, lit_5, lit_6, lit_7, lit_8, lit_9, lit_10, lit_11, lit_12, lit_13, lit_14, lit_15, lit_16, lit_20, lit_23, lit_24, lit_31, lit_32, lit_39, lit_43, lit_45, lit_47, lit_48, lit_56, lit_57, lit_59, lit_60, lit_62, lit_63, lit_89, lit_92, lit_96, lit_97, lit_99, lit_100, lit_102, lit_103, lit_104, lit_110, lit_111, lit_115, lit_117, lit_194, lit_200, lit_644, lit_736, lit_999, lit_1000, lit_9999, lit_10000, lit_1000000000, ↓wp_mlet, ↓wp_mbp, ↓wp_ite, ↓wp_mix, ↓wp_mdiv, ↓wp_mnz, ↓wp_some, ↓wp_mbnd, ↓mlet_eq, ↓mbp_eq, ↓mbnd_eq, ↓mix_ite, ↓mdiv_ite, ↓mnz_ite, nI_add, nI_mul, nI_nat, nI_ltE, nI_leE, nI_eqE, nI_eqN, nI_Neq, nI_Nlt, nI_Nle, nI_ltN, nI_leN, ↓reduceIte, ↓Nat.reduceEqDiff, and_f, nt_e, nt_t, nl_t, nl_f, ne_t, ne_f, and_self, or_self, or_true, true_or, or_false, false_or, if_true, if_false, and_true, true_and, and_false, false_and, not_true, not_false_iff]
      exact c_sealTail (c1 := n2) (c2 := n3) hN hk hd hb hj b0 (by omega) (by omega) (by omega)
theorem enc_ext {x : Nat → Int32} {α β : Sp} (h : ∀ j, (β j = α j ∧ x j = enc α j) ∨ (¬ (j = 48 ∨ j = 51 ∨ j = 54) ∧ x j = nI (β j))) : x = enc β := by
  funext j
  rcases h j with ⟨h1, h2⟩ | ⟨h1, h2⟩
  · rw [h2]
    unfold enc
    rw [h1]
  · rw [h2, enc_n h1]
theorem m_sealTail {M : Mem} {α : Sp} {n1 c1 c2 n4 : Nat} {N : Nat} (hN : 1000 = N) (hS : M 12 48 = enc α) (b0 : α 0 ≤ 8) (h1 : n1 ≤ 96) (h2 : c1 ≤ 96) (h3 : c2 ≤ 96) :
    MT M 1 (.inr (α 0, sealSp α n1 c1 c2 n4)) (f_X12_seals_L152 N (nI 0) (mup (fil (mup (mup (mup (mup (mup (mup (mup (mup M 12 48 1 (nI 1)) 12 48 2 (nI n1)) 12 48 3 (nI c1)) 12 48 4 (nI c2)) 12 48 5 (nI n4)) 12 48 6 (nI 0)) 12 48 7 (nI 0)) 12 48 8 (nI 0)) 12 48 23 31 (fun _ => nI 0)) 12 48 9 (nI 0)) (fun M32 => (mbnd (f_X12_done (M32 12 48 0) M32) fun r33 M34 => (some (r33, M34))))) := by
  rw [m_fillShares (n := α 0) (c0 := n1) (c1 := c1) (c2 := c2) hN b0]
  case h0 => simp (disch := omega) only [mup_at, up_at, fil_at, ↓reduceIte, ↓Nat.reduceEqDiff, and_f, nt_e, nt_t, nl_t, nl_f, ne_t, ne_f, and_self, or_self, or_true, true_or, or_false, false_or, if_true, if_false, and_true, true_and, and_false, false_and, not_true, not_false_iff, sealSp_at, ms_n hS]
  case e0 => simp (disch := omega) only [mup_at, up_at, fil_at, ↓reduceIte, ↓Nat.reduceEqDiff, and_f, nt_e, nt_t, nl_t, nl_f, ne_t, ne_f, and_self, or_self, or_true, true_or, or_false, false_or, if_true, if_false, and_true, true_and, and_false, false_and, not_true, not_false_iff, sealSp_at]
  case e1 => simp (disch := omega) only [mup_at, up_at, fil_at, ↓reduceIte, ↓Nat.reduceEqDiff, and_f, nt_e, nt_t, nl_t, nl_f, ne_t, ne_f, and_self, or_self, or_true, true_or, or_false, false_or, if_true, if_false, and_true, true_and, and_false, false_and, not_true, not_false_iff, sealSp_at]
  case e2 => simp (disch := omega) only [mup_at, up_at, fil_at, ↓reduceIte, ↓Nat.reduceEqDiff, and_f, nt_e, nt_t, nl_t, nl_f, ne_t, ne_f, and_self, or_self, or_true, true_or, or_false, false_or, if_true, if_false, and_true, true_and, and_false, false_and, not_true, not_false_iff, sealSp_at]
  case b0 => exact h1
  case b1 => exact h2
  case b2 => exact h3
  unfold MT f_X12_done
  simp (disch := omega) only [lit_0, lit_1, lit_2, lit_3, lit_4, lit_5, lit_6, lit_7, lit_8, lit_9, lit_10, lit_11, lit_12, lit_13, lit_14, lit_15, lit_16, lit_20, lit_23, lit_24, lit_31, lit_32, lit_39, lit_43, lit_45, lit_47, lit_48, lit_56, lit_57, lit_59, lit_60, lit_62, lit_63, lit_89, lit_92, lit_96, lit_97, lit_99, lit_100, lit_102, lit_103, lit_104, lit_110, lit_111, lit_115, lit_117, lit_194, lit_200, lit_644, lit_736, lit_999, lit_1000, lit_9999, lit_10000, lit_1000000000, ↓wp_mlet, ↓wp_mbp, ↓wp_ite, ↓wp_mix, ↓wp_mdiv, ↓wp_mnz, ↓wp_some, ↓wp_mbnd, ↓mlet_eq, ↓mbp_eq, ↓mbnd_eq, ↓mix_ite, ↓mdiv_ite, ↓mnz_ite, nI_add, nI_mul, nI_nat, nI_ltE, nI_leE, nI_eqE, nI_eqN, nI_Neq, nI_Nlt, nI_Nle, nI_ltN, nI_leN, ↓reduceIte, ↓Nat.reduceEqDiff, and_f, nt_e, nt_t, nl_t, nl_f, ne_t, ne_f, and_self, or_self, or_true, true_or, or_false, false_or, if_true, if_false, and_true, true_and, and_false, false_and, not_true, not_false_iff]
  refine ⟨?_, ?_, ?_, ?_⟩
  · refine enc_ext (α := α) fun j => ?_
    by_cases q : 1 ≤ j ∧ j ≤ 9
    · rcases (show j = 1 ∨ j = 2 ∨ j = 3 ∨ j = 4 ∨ j = 5 ∨ j = 6 ∨ j = 7 ∨ j = 8 ∨ j = 9 by omega) with rfl | rfl | rfl | rfl | rfl | rfl | rfl | rfl | rfl <;> exact Or.inr ⟨by decide, by simp (disch := omega) only [mup_at, up_at, fil_at, ↓reduceIte, ↓Nat.reduceEqDiff, and_f, nt_e, nt_t, nl_t, nl_f, ne_t, ne_f, and_self, or_self, or_true, true_or, or_false, false_or, if_true, if_false, and_true, true_and, and_false, false_and, not_true, not_false_iff, sealSp_at]⟩
    · by_cases q2 : 23 ≤ j ∧ j < 31
      · exact Or.inr ⟨by omega, by simp (disch := omega) only [mup_at, up_at, fil_at, ↓reduceIte, ↓Nat.reduceEqDiff, and_f, nt_e, nt_t, nl_t, nl_f, ne_t, ne_f, and_self, or_self, or_true, true_or, or_false, false_or, if_true, if_false, and_true, true_and, and_false, false_and, not_true, not_false_iff, sealSp_at]⟩
      · by_cases q3 : 15 ≤ j ∧ j < 15 + α 0
        · exact Or.inr ⟨by omega, by simp (disch := omega) only [mup_at, up_at, fil_at, ↓reduceIte, ↓Nat.reduceEqDiff, and_f, nt_e, nt_t, nl_t, nl_f, ne_t, ne_f, and_self, or_self, or_true, true_or, or_false, false_or, if_true, if_false, and_true, true_and, and_false, false_and, not_true, not_false_iff, sealSp_at, crv3]⟩
        · exact Or.inl ⟨by simp (disch := omega) only [mup_at, up_at, fil_at, ↓reduceIte, ↓Nat.reduceEqDiff, and_f, nt_e, nt_t, nl_t, nl_f, ne_t, ne_f, and_self, or_self, or_true, true_or, or_false, false_or, if_true, if_false, and_true, true_and, and_false, false_and, not_true, not_false_iff, sealSp_at], by simp (disch := omega) only [mup_at, up_at, fil_at, ↓reduceIte, ↓Nat.reduceEqDiff, and_f, nt_e, nt_t, nl_t, nl_f, ne_t, ne_f, and_self, or_self, or_true, true_or, or_false, false_or, if_true, if_false, and_true, true_and, and_false, false_and, not_true, not_false_iff, sealSp_at, hS]⟩
  · intro k hk
    simp (disch := omega) only [mup_at, up_at, fil_at, ↓reduceIte, ↓Nat.reduceEqDiff, and_f, nt_e, nt_t, nl_t, nl_f, ne_t, ne_f, and_self, or_self, or_true, true_or, or_false, false_or, if_true, if_false, and_true, true_and, and_false, false_and, not_true, not_false_iff, sealSp_at]
  · simp (disch := omega) only [mup_at, up_at, fil_at, ↓reduceIte, ↓Nat.reduceEqDiff, and_f, nt_e, nt_t, nl_t, nl_f, ne_t, ne_f, and_self, or_self, or_true, true_or, or_false, false_or, if_true, if_false, and_true, true_and, and_false, false_and, not_true, not_false_iff, sealSp_at, ms_n hS]
  · intro a b hab
    funext c
    simp (disch := omega) only [mup_at, up_at, fil_at, ↓reduceIte, ↓Nat.reduceEqDiff, and_f, nt_e, nt_t, nl_t, nl_f, ne_t, ne_f, and_self, or_self, or_true, true_or, or_false, false_or, if_true, if_false, and_true, true_and, and_false, false_and, not_true, not_false_iff, sealSp_at]
set_option maxHeartbeats 4000000 in
theorem m_seal {M : Mem} {α : Sp} {H : Nat} (hS : M 12 48 = enc α) (hi : Inv H α) (a1 a2 a3 a4 : Int32) : MT M 1 (sSeal α a1 a2 a3 a4) (f_X12_seals a1 a2 a3 a4 M) := by
  obtain ⟨⟨b0, b1, b2, b3, b4, b5, b6, b7, b8, b9, b10, b11, b14⟩, -, -, bs, bk, -, -, -, -, -⟩ := hi
  unfold sSeal f_X12_seals
  generalize hN : (1000 : Nat) = N
  simp only [lit_0, lit_1, lit_2, lit_3, lit_4, lit_5, lit_6, lit_7, lit_8, lit_9, lit_10, lit_11, lit_12, lit_13, lit_14, lit_15, lit_16, lit_20, lit_23, lit_24, lit_31, lit_32, lit_39, lit_43, lit_45, lit_47, lit_48, lit_56, lit_57, lit_59, lit_60, lit_62, lit_63, lit_89, lit_92, lit_96, lit_97, lit_99, lit_100, lit_102, lit_103, lit_104, lit_110, lit_111, lit_115, lit_117, lit_194, lit_200, lit_644, lit_736, lit_999, lit_1000, lit_9999, lit_10000, lit_1000000000]
  rw [rng_c a1 96 (by decide), rng_c a2 96 (by decide), rng_c a3 96 (by decide), rng_1 a4 3 (by decide)]
  simp only [mbp_eq, Nat.reduceAdd, toNat_0]
  rcases idx_c a1 97 (by decide) with ⟨n1, h1, rfl, e1⟩ | ⟨e1, -⟩
  case inr =>
    simp (disch := omega) only [lit_0, lit_1, lit_2, lit_3, lit_4, lit_5, lit_6, lit_7, lit_8, lit_9, lit_10, lit_11, lit_12, lit_13, lit_14, lit_15, lit_16, lit_20, lit_23, lit_24, lit_31, lit_32, lit_39, lit_43, lit_45, lit_47, lit_48, lit_56, lit_57, lit_59, lit_60, lit_62, lit_63, lit_89, lit_92, lit_96, lit_97, lit_99, lit_100, lit_102, lit_103, lit_104, lit_110, lit_111, lit_115, lit_117, lit_194, lit_200, lit_644, lit_736, lit_999, lit_1000, lit_9999, lit_10000, lit_1000000000, ↓wp_mlet, ↓wp_mbp, ↓wp_ite, ↓wp_mix, ↓wp_mdiv, ↓wp_mnz, ↓wp_some, ↓wp_mbnd, ↓mlet_eq, ↓mbp_eq, ↓mbnd_eq, ↓mix_ite, ↓mdiv_ite, ↓mnz_ite, nI_add, nI_mul, nI_nat, nI_ltE, nI_leE, nI_eqE, nI_eqN, nI_Neq, nI_Nlt, nI_Nle, nI_ltN, nI_leN, ↓reduceIte, ↓Nat.reduceEqDiff, and_f, nt_e, nt_t, nl_t, nl_f, ne_t, ne_f, and_self, or_self, or_true, true_or, or_false, false_or, if_true, if_false, and_true, true_and, and_false, false_and, not_true, not_false_iff, toNat_0, Bool.false_and, Bool.true_and, Bool.and_false, Bool.and_true, Bool.false_eq_true, reduceCtorEq, Bool.true_eq_false, Bool.not_true, Bool.not_false, e1]
    exact MT_21
  rcases idx_c a2 97 (by decide) with ⟨n2, h2, rfl, e2⟩ | ⟨e2, -⟩
  case inr =>
    simp (disch := omega) only [lit_0, lit_1, lit_2, lit_3, lit_4, lit_5, lit_6, lit_7, lit_8, lit_9, lit_10, lit_11, lit_12, lit_13, lit_14, lit_15, lit_16, lit_20, lit_23, lit_24, lit_31, lit_32, lit_39, lit_43, lit_45, lit_47, lit_48, lit_56, lit_57, lit_59, lit_60, lit_62, lit_63, lit_89, lit_92, lit_96, lit_97, lit_99, lit_100, lit_102, lit_103, lit_104, lit_110, lit_111, lit_115, lit_117, lit_194, lit_200, lit_644, lit_736, lit_999, lit_1000, lit_9999, lit_10000, lit_1000000000, ↓wp_mlet, ↓wp_mbp, ↓wp_ite, ↓wp_mix, ↓wp_mdiv, ↓wp_mnz, ↓wp_some, ↓wp_mbnd, ↓mlet_eq, ↓mbp_eq, ↓mbnd_eq, ↓mix_ite, ↓mdiv_ite, ↓mnz_ite, nI_add, nI_mul, nI_nat, nI_ltE, nI_leE, nI_eqE, nI_eqN, nI_Neq, nI_Nlt, nI_Nle, nI_ltN, nI_leN, ↓reduceIte, ↓Nat.reduceEqDiff, and_f, nt_e, nt_t, nl_t, nl_f, ne_t, ne_f, and_self, or_self, or_true, true_or, or_false, false_or, if_true, if_false, and_true, true_and, and_false, false_and, not_true, not_false_iff, toNat_0, Bool.false_and, Bool.true_and, Bool.and_false, Bool.and_true, Bool.false_eq_true, reduceCtorEq, Bool.true_eq_false, Bool.not_true, Bool.not_false, e1, e2]
    exact MT_21
  rcases idx_c a3 97 (by decide) with ⟨n3, h3, rfl, e3⟩ | ⟨e3, -⟩
  case inr =>
    simp (disch := omega) only [lit_0, lit_1, lit_2, lit_3, lit_4, lit_5, lit_6, lit_7, lit_8, lit_9, lit_10, lit_11, lit_12, lit_13, lit_14, lit_15, lit_16, lit_20, lit_23, lit_24, lit_31, lit_32, lit_39, lit_43, lit_45, lit_47, lit_48, lit_56, lit_57, lit_59, lit_60, lit_62, lit_63, lit_89, lit_92, lit_96, lit_97, lit_99, lit_100, lit_102, lit_103, lit_104, lit_110, lit_111, lit_115, lit_117, lit_194, lit_200, lit_644, lit_736, lit_999, lit_1000, lit_9999, lit_10000, lit_1000000000, ↓wp_mlet, ↓wp_mbp, ↓wp_ite, ↓wp_mix, ↓wp_mdiv, ↓wp_mnz, ↓wp_some, ↓wp_mbnd, ↓mlet_eq, ↓mbp_eq, ↓mbnd_eq, ↓mix_ite, ↓mdiv_ite, ↓mnz_ite, nI_add, nI_mul, nI_nat, nI_ltE, nI_leE, nI_eqE, nI_eqN, nI_Neq, nI_Nlt, nI_Nle, nI_ltN, nI_leN, ↓reduceIte, ↓Nat.reduceEqDiff, and_f, nt_e, nt_t, nl_t, nl_f, ne_t, ne_f, and_self, or_self, or_true, true_or, or_false, false_or, if_true, if_false, and_true, true_and, and_false, false_and, not_true, not_false_iff, toNat_0, Bool.false_and, Bool.true_and, Bool.and_false, Bool.and_true, Bool.false_eq_true, reduceCtorEq, Bool.true_eq_false, Bool.not_true, Bool.not_false, e1, e2, e3]
    exact MT_21
  rcases rng1_c a4 3 with ⟨n4, h4, h4', rfl, e4⟩ | ⟨e4, h4⟩
  case inr =>
    simp (disch := omega) only [lit_0, lit_1, lit_2, lit_3, lit_4, lit_5, lit_6, lit_7, lit_8, lit_9, lit_10, lit_11, lit_12, lit_13, lit_14, lit_15, lit_16, lit_20, lit_23, lit_24, lit_31, lit_32, lit_39, lit_43, lit_45, lit_47, lit_48, lit_56, lit_57, lit_59, lit_60, lit_62, lit_63, lit_89, lit_92, lit_96, lit_97, lit_99, lit_100, lit_102, lit_103, lit_104, lit_110, lit_111, lit_115, lit_117, lit_194, lit_200, lit_644, lit_736, lit_999, lit_1000, lit_9999, lit_10000, lit_1000000000, ↓wp_mlet, ↓wp_mbp, ↓wp_ite, ↓wp_mix, ↓wp_mdiv, ↓wp_mnz, ↓wp_some, ↓wp_mbnd, ↓mlet_eq, ↓mbp_eq, ↓mbnd_eq, ↓mix_ite, ↓mdiv_ite, ↓mnz_ite, nI_add, nI_mul, nI_nat, nI_ltE, nI_leE, nI_eqE, nI_eqN, nI_Neq, nI_Nlt, nI_Nle, nI_ltN, nI_leN, ↓reduceIte, ↓Nat.reduceEqDiff, and_f, nt_e, nt_t, nl_t, nl_f, ne_t, ne_f, and_self, or_self, or_true, true_or, or_false, false_or, if_true, if_false, and_true, true_and, and_false, false_and, not_true, not_false_iff, toNat_0, Bool.false_and, Bool.true_and, Bool.and_false, Bool.and_true, Bool.false_eq_true, reduceCtorEq, Bool.true_eq_false, Bool.not_true, Bool.not_false, e1, e2, e3, e4]
    exact MT_21
  simp (disch := omega) only [lit_0, lit_1, lit_2, lit_3, lit_4, lit_5, lit_6, lit_7, lit_8, lit_9, lit_10, lit_11, lit_12, lit_13, lit_14, lit_15, lit_16, lit_20, lit_23, lit_24, lit_31, lit_32, lit_39, lit_43, lit_45, lit_47, lit_48, lit_56, lit_57, lit_59, lit_60, lit_62, lit_63, lit_89, lit_92, lit_96, lit_97, lit_99, lit_100, lit_102, lit_103, lit_104, lit_110, lit_111, lit_115, lit_117, lit_194, lit_200, lit_644, lit_736, lit_999, lit_1000, lit_9999, lit_10000, lit_1000000000, ↓wp_mlet, ↓wp_mbp, ↓wp_ite, ↓wp_mix, ↓wp_mdiv, ↓wp_mnz, ↓wp_some, ↓wp_mbnd, ↓mlet_eq, ↓mbp_eq, ↓mbnd_eq, ↓mix_ite, ↓mdiv_ite, ↓mnz_ite, nI_add, nI_mul, nI_nat, nI_ltE, nI_leE, nI_eqE, nI_eqN, nI_Neq, nI_Nlt, nI_Nle, nI_ltN, nI_leN, ↓reduceIte, ↓Nat.reduceEqDiff, and_f, nt_e, nt_t, nl_t, nl_f, ne_t, ne_f, and_self, or_self, or_true, true_or, or_false, false_or, if_true, if_false, and_true, true_and, and_false, false_and, not_true, not_false_iff, toNat_0, Bool.false_and, Bool.true_and, Bool.and_false, Bool.and_true, Bool.false_eq_true, reduceCtorEq, Bool.true_eq_false, Bool.not_true, Bool.not_false, e1, e2, e3, e4, ms_n hS]
  by_cases hlt : α 0 < n4
  · have q2 : ¬ n4 ≤ α 0 := by omega
    simp (disch := omega) only [lit_0, lit_1, lit_2, lit_3, lit_4, lit_5, lit_6, lit_7, lit_8, lit_9, lit_10, lit_11, lit_12, lit_13, lit_14, lit_15, lit_16, lit_20, lit_23, lit_24, lit_31, lit_32, lit_39, lit_43, lit_45, lit_47, lit_48, lit_56, lit_57, lit_59, lit_60, lit_62, lit_63, lit_89, lit_92, lit_96, lit_97, lit_99, lit_100, lit_102, lit_103, lit_104, lit_110, lit_111, lit_115, lit_117, lit_194, lit_200, lit_644, lit_736, lit_999, lit_1000, lit_9999, lit_10000, lit_1000000000, ↓wp_mlet, ↓wp_mbp, ↓wp_ite, ↓wp_mix, ↓wp_mdiv, ↓wp_mnz, ↓wp_some, ↓wp_mbnd, ↓mlet_eq, ↓mbp_eq, ↓mbnd_eq, ↓mix_ite, ↓mdiv_ite, ↓mnz_ite, nI_add, nI_mul, nI_nat, nI_ltE, nI_leE, nI_eqE, nI_eqN, nI_Neq, nI_Nlt, nI_Nle, nI_ltN, nI_leN, ↓reduceIte, ↓Nat.reduceEqDiff, and_f, nt_e, nt_t, nl_t, nl_f, ne_t, ne_f, and_self, or_self, or_true, true_or, or_false, false_or, if_true, if_false, and_true, true_and, and_false, false_and, not_true, not_false_iff, hlt, q2]
    exact MT_refused (by decide)
  · have q2 : n4 ≤ α 0 := by omega
    simp (disch := omega) only [lit_0, lit_1, lit_2, lit_3, lit_4, lit_5, lit_6, lit_7, lit_8, lit_9, lit_10, lit_11, lit_12, lit_13, lit_14, lit_15, lit_16, lit_20, lit_23, lit_24, lit_31, lit_32, lit_39, lit_43, lit_45, lit_47, lit_48, lit_56, lit_57, lit_59, lit_60, lit_62, lit_63, lit_89, lit_92, lit_96, lit_97, lit_99, lit_100, lit_102, lit_103, lit_104, lit_110, lit_111, lit_115, lit_117, lit_194, lit_200, lit_644, lit_736, lit_999, lit_1000, lit_9999, lit_10000, lit_1000000000, ↓wp_mlet, ↓wp_mbp, ↓wp_ite, ↓wp_mix, ↓wp_mdiv, ↓wp_mnz, ↓wp_some, ↓wp_mbnd, ↓mlet_eq, ↓mbp_eq, ↓mbnd_eq, ↓mix_ite, ↓mdiv_ite, ↓mnz_ite, nI_add, nI_mul, nI_nat, nI_ltE, nI_leE, nI_eqE, nI_eqN, nI_Neq, nI_Nlt, nI_Nle, nI_ltN, nI_leN, ↓reduceIte, ↓Nat.reduceEqDiff, and_f, nt_e, nt_t, nl_t, nl_f, ne_t, ne_f, and_self, or_self, or_true, true_or, or_false, false_or, if_true, if_false, and_true, true_and, and_false, false_and, not_true, not_false_iff, hlt, q2]
    have hn4 : n4 = 1 ∨ n4 = 2 ∨ n4 = 3 := by omega
    simp only [m_clears]
    rcases hn4 with rfl | rfl | rfl
    · simp (disch := omega) only [lit_0, lit_1, lit_2, lit_3, lit_4, lit_5, lit_6, lit_7, lit_8, lit_9, lit_10, lit_11, lit_12, lit_13, lit_14, lit_15, lit_16, lit_20, lit_23, lit_24, lit_31, lit_32, lit_39, lit_43, lit_45, lit_47, lit_48, lit_56, lit_57, lit_59, lit_60, lit_62, lit_63, lit_89, lit_92, lit_96, lit_97, lit_99, lit_100, lit_102, lit_103, lit_104, lit_110, lit_111, lit_115, lit_117, lit_194, lit_200, lit_644, lit_736, lit_999, lit_1000, lit_9999, lit_10000, lit_1000000000, ↓wp_mlet, ↓wp_mbp, ↓wp_ite, ↓wp_mix, ↓wp_mdiv, ↓wp_mnz, ↓wp_some, ↓wp_mbnd, ↓mlet_eq, ↓mbp_eq, ↓mbnd_eq, ↓mix_ite, ↓mdiv_ite, ↓mnz_ite, nI_add, nI_mul, nI_nat, nI_ltE, nI_leE, nI_eqE, nI_eqN, nI_Neq, nI_Nlt, nI_Nle, nI_ltN, nI_leN, ↓reduceIte, ↓Nat.reduceEqDiff, and_f, nt_e, nt_t, nl_t, nl_f, ne_t, ne_f, and_self, or_self, or_true, true_or, or_false, false_or, if_true, if_false, and_true, true_and, and_false, false_and, not_true, not_false_iff, Nat.reduceLeDiff]
      exact m_sealTail (c1 := 0) (c2 := 0) hN hS b0 (by omega) (by omega) (by omega)
    · simp (disch := omega) only [lit_0, lit_1, lit_2, lit_3, lit_4, lit_5, lit_6, lit_7, lit_8, lit_9, lit_10, lit_11, lit_12, lit_13, lit_14, lit_15, lit_16, lit_20, lit_23, lit_24, lit_31, lit_32, lit_39, lit_43, lit_45, lit_47, lit_48, lit_56, lit_57, lit_59, lit_60, lit_62, lit_63, lit_89, lit_92, lit_96, lit_97, lit_99, lit_100, lit_102, lit_103, lit_104, lit_110, lit_111, lit_115, lit_117, lit_194, lit_200, lit_644, lit_736, lit_999, lit_1000, lit_9999, lit_10000, lit_1000000000, ↓wp_mlet, ↓wp_mbp, ↓wp_ite, ↓wp_mix, ↓wp_mdiv, ↓wp_mnz, ↓wp_some, ↓wp_mbnd, ↓mlet_eq, ↓mbp_eq, ↓mbnd_eq, ↓mix_ite, ↓mdiv_ite, ↓mnz_ite, nI_add, nI_mul, nI_nat, nI_ltE, nI_leE, nI_eqE, nI_eqN, nI_Neq, nI_Nlt, nI_Nle, nI_ltN, nI_leN, ↓reduceIte, ↓Nat.reduceEqDiff, and_f, nt_e, nt_t, nl_t, nl_f, ne_t, ne_f, and_self, or_self, or_true, true_or, or_false, false_or, if_true, if_false, and_true, true_and, and_false, false_and, not_true, not_false_iff, Nat.reduceLeDiff]
      exact m_sealTail (c1 := n2) (c2 := 0) hN hS b0 (by omega) (by omega) (by omega)
    · simp (disch := omega) only [lit_0, lit_1, lit_2, lit_3, lit_4, lit_5, lit_6, lit_7, lit_8, lit_9, lit_10, lit_11, lit_12, lit_13, lit_14, lit_15, lit_16, lit_20, lit_23, lit_24, lit_31, lit_32, lit_39, lit_43, lit_45, lit_47, lit_48, lit_56, lit_57, lit_59, lit_60, lit_62, lit_63, lit_89, lit_92, lit_96, lit_97, lit_99, lit_100, lit_102, lit_103, lit_104, lit_110, lit_111, lit_115, lit_117, lit_194, lit_200, lit_644, lit_736, lit_999, lit_1000, lit_9999, lit_10000, lit_1000000000, ↓wp_mlet, ↓wp_mbp, ↓wp_ite, ↓wp_mix, ↓wp_mdiv, ↓wp_mnz, ↓wp_some, ↓wp_mbnd, ↓mlet_eq, ↓mbp_eq, ↓mbnd_eq, ↓mix_ite, ↓mdiv_ite, ↓mnz_ite, nI_add, nI_mul, nI_nat, nI_ltE, nI_leE, nI_eqE, nI_eqN, nI_Neq, nI_Nlt, nI_Nle, nI_ltN, nI_leN, ↓reduceIte, ↓Nat.reduceEqDiff, and_f, nt_e, nt_t, nl_t, nl_f, ne_t, ne_f, and_self, or_self, or_true, true_or, or_false, false_or, if_true, if_false, and_true, true_and, and_false, false_and, not_true, not_false_iff, Nat.reduceLeDiff]
      exact m_sealTail (c1 := n2) (c2 := n3) hN hS b0 (by omega) (by omega) (by omega)
/-! shares and keys -/
def sShare (α : Sp) (a1 a2 : Int32) : Ex :=
  if idx a1 (α 0) then
    if idx a2 97 then
      if α 1 = 0 then .inl (3, 0) else .inr (α (15 + a1.toNatClampNeg), up α (15 + a1.toNatClampNeg) a2.toNatClampNeg)
    else .inl (21, 0)
  else .inl (20, 0)
theorem c_share {M : Mem} {α : Sp} {H : Nat} (hR : RC (M 0) α) (hi : Inv H α) (a1 a2 : Int32) : CT M a1 (sShare α a1 a2) (f_X9_tryShare 0 a1 a2 M) := by
  obtain ⟨hk, hd, hb, hj⟩ := hR
  obtain ⟨r0, r1, r3, r5, r2, rc, r4⟩ := id hk
  obtain ⟨⟨b0, b1, b2, b3, b4, b5, b6, b7, b8, b9, b10, b11, b14⟩, -, -, bs, bk, -, -, -, -, -⟩ := hi
  unfold sShare f_X9_tryShare
  simp only [c_hasHolder r0 (show α 0 < 2147483648 by omega), c_isResidue, mbp_eq]
  rcases idx_c a1 (α 0) (by omega) with ⟨n1, h1, rfl, e1⟩ | ⟨e1, -⟩
  case inr =>
    simp (disch := omega) only [lit_0, lit_1, lit_2, lit_3, lit_4, lit_5, lit_6, lit_7, lit_8, lit_9, lit_10, lit_11, lit_12, lit_13, lit_14, lit_15, lit_16, lit_20, lit_23, lit_24, lit_31, lit_32, lit_39, lit_43, lit_45, lit_47, lit_48, lit_56, lit_57, lit_59, lit_60, lit_62, lit_63, lit_89, lit_92, lit_96, lit_97, lit_99, lit_100, lit_102, lit_103, lit_104, lit_110, lit_111, lit_115, lit_117, lit_194, lit_200, lit_644, lit_736, lit_999, lit_1000, lit_9999, lit_10000, lit_1000000000, ↓wp_mlet, ↓wp_mbp, ↓wp_ite, ↓wp_mix, ↓wp_mdiv, ↓wp_mnz, ↓wp_some, ↓wp_mbnd, ↓mlet_eq, ↓mbp_eq, ↓mbnd_eq, ↓mix_ite, ↓mdiv_ite, ↓mnz_ite, nI_add, nI_mul, nI_nat, nI_ltE, nI_leE, nI_eqE, nI_eqN, nI_Neq, nI_Nlt, nI_Nle, nI_ltN, nI_leN, ↓reduceIte, ↓Nat.reduceEqDiff, and_f, nt_e, nt_t, nl_t, nl_f, ne_t, ne_f, and_self, or_self, or_true, true_or, or_false, false_or, if_true, if_false, and_true, true_and, and_false, false_and, not_true, not_false_iff, toNat_0, Bool.false_and, Bool.true_and, Bool.and_false, Bool.and_true, Bool.false_eq_true, reduceCtorEq, Bool.true_eq_false, Bool.not_true, Bool.not_false, e1]
    exact CT_20
  rcases idx_c a2 97 (by decide) with ⟨n2, h2, rfl, e2⟩ | ⟨e2, -⟩
  case inr =>
    simp (disch := omega) only [lit_0, lit_1, lit_2, lit_3, lit_4, lit_5, lit_6, lit_7, lit_8, lit_9, lit_10, lit_11, lit_12, lit_13, lit_14, lit_15, lit_16, lit_20, lit_23, lit_24, lit_31, lit_32, lit_39, lit_43, lit_45, lit_47, lit_48, lit_56, lit_57, lit_59, lit_60, lit_62, lit_63, lit_89, lit_92, lit_96, lit_97, lit_99, lit_100, lit_102, lit_103, lit_104, lit_110, lit_111, lit_115, lit_117, lit_194, lit_200, lit_644, lit_736, lit_999, lit_1000, lit_9999, lit_10000, lit_1000000000, ↓wp_mlet, ↓wp_mbp, ↓wp_ite, ↓wp_mix, ↓wp_mdiv, ↓wp_mnz, ↓wp_some, ↓wp_mbnd, ↓mlet_eq, ↓mbp_eq, ↓mbnd_eq, ↓mix_ite, ↓mdiv_ite, ↓mnz_ite, nI_add, nI_mul, nI_nat, nI_ltE, nI_leE, nI_eqE, nI_eqN, nI_Neq, nI_Nlt, nI_Nle, nI_ltN, nI_leN, ↓reduceIte, ↓Nat.reduceEqDiff, and_f, nt_e, nt_t, nl_t, nl_f, ne_t, ne_f, and_self, or_self, or_true, true_or, or_false, false_or, if_true, if_false, and_true, true_and, and_false, false_and, not_true, not_false_iff, toNat_0, Bool.false_and, Bool.true_and, Bool.and_false, Bool.and_true, Bool.false_eq_true, reduceCtorEq, Bool.true_eq_false, Bool.not_true, Bool.not_false, e1, e2]
    exact CT_21
  by_cases hs : α 1 = 0
  · simp (disch := omega) only [lit_0, lit_1, lit_2, lit_3, lit_4, lit_5, lit_6, lit_7, lit_8, lit_9, lit_10, lit_11, lit_12, lit_13, lit_14, lit_15, lit_16, lit_20, lit_23, lit_24, lit_31, lit_32, lit_39, lit_43, lit_45, lit_47, lit_48, lit_56, lit_57, lit_59, lit_60, lit_62, lit_63, lit_89, lit_92, lit_96, lit_97, lit_99, lit_100, lit_102, lit_103, lit_104, lit_110, lit_111, lit_115, lit_117, lit_194, lit_200, lit_644, lit_736, lit_999, lit_1000, lit_9999, lit_10000, lit_1000000000, ↓wp_mlet, ↓wp_mbp, ↓wp_ite, ↓wp_mix, ↓wp_mdiv, ↓wp_mnz, ↓wp_some, ↓wp_mbnd, ↓mlet_eq, ↓mbp_eq, ↓mbnd_eq, ↓mix_ite, ↓mdiv_ite, ↓mnz_ite, nI_add, nI_mul, nI_nat, nI_ltE, nI_leE, nI_eqE, nI_eqN, nI_Neq, nI_Nlt, nI_Nle, nI_ltN, nI_leN, ↓reduceIte, ↓Nat.reduceEqDiff, and_f, nt_e, nt_t, nl_t, nl_f, ne_t, ne_f, and_self, or_self, or_true, true_or, or_false, false_or, if_true, if_false, and_true, true_and, and_false, false_and, not_true, not_false_iff, toNat_0, Bool.false_and, Bool.true_and, Bool.and_false, Bool.and_true, Bool.false_eq_true, reduceCtorEq, Bool.true_eq_false, Bool.not_true, Bool.not_false, e1, e2, r1, hs]
    refine CT_inl rfl fun _ => ?_
    unfold f_X9_detailOf
    simp (disch := omega) only [lit_0, lit_1, lit_2, lit_3, lit_4, lit_5, lit_6, lit_7, lit_8, lit_9, lit_10, lit_11, lit_12, lit_13, lit_14, lit_15, lit_16, lit_20, lit_23, lit_24, lit_31, lit_32, lit_39, lit_43, lit_45, lit_47, lit_48, lit_56, lit_57, lit_59, lit_60, lit_62, lit_63, lit_89, lit_92, lit_96, lit_97, lit_99, lit_100, lit_102, lit_103, lit_104, lit_110, lit_111, lit_115, lit_117, lit_194, lit_200, lit_644, lit_736, lit_999, lit_1000, lit_9999, lit_10000, lit_1000000000, ↓wp_mlet, ↓wp_mbp, ↓wp_ite, ↓wp_mix, ↓wp_mdiv, ↓wp_mnz, ↓wp_some, ↓wp_mbnd, ↓mlet_eq, ↓mbp_eq, ↓mbnd_eq, ↓mix_ite, ↓mdiv_ite, ↓mnz_ite, nI_add, nI_mul, nI_nat, nI_ltE, nI_leE, nI_eqE, nI_eqN, nI_Neq, nI_Nlt, nI_Nle, nI_ltN, nI_leN, ↓reduceIte, ↓Nat.reduceEqDiff, and_f, nt_e, nt_t, nl_t, nl_f, ne_t, ne_f, and_self, or_self, or_true, true_or, or_false, false_or, if_true, if_false, and_true, true_and, and_false, false_and, not_true, not_false_iff]
  · simp (disch := omega) only [lit_0, lit_1, lit_2, lit_3, lit_4, lit_5, lit_6, lit_7, lit_8, lit_9, lit_10, lit_11, lit_12, lit_13, lit_14, lit_15, lit_16, lit_20, lit_23, lit_24, lit_31, lit_32, lit_39, lit_43, lit_45, lit_47, lit_48, lit_56, lit_57, lit_59, lit_60, lit_62, lit_63, lit_89, lit_92, lit_96, lit_97, lit_99, lit_100, lit_102, lit_103, lit_104, lit_110, lit_111, lit_115, lit_117, lit_194, lit_200, lit_644, lit_736, lit_999, lit_1000, lit_9999, lit_10000, lit_1000000000, ↓wp_mlet, ↓wp_mbp, ↓wp_ite, ↓wp_mix, ↓wp_mdiv, ↓wp_mnz, ↓wp_some, ↓wp_mbnd, ↓mlet_eq, ↓mbp_eq, ↓mbnd_eq, ↓mix_ite, ↓mdiv_ite, ↓mnz_ite, nI_add, nI_mul, nI_nat, nI_ltE, nI_leE, nI_eqE, nI_eqN, nI_Neq, nI_Nlt, nI_Nle, nI_ltN, nI_leN, ↓reduceIte, ↓Nat.reduceEqDiff, and_f, nt_e, nt_t, nl_t, nl_f, ne_t, ne_f, and_self, or_self, or_true, true_or, or_false, false_or, if_true, if_false, and_true, true_and, and_false, false_and, not_true, not_false_iff, toNat_0, Bool.false_and, Bool.true_and, Bool.and_false, Bool.and_true, Bool.false_eq_true, reduceCtorEq, Bool.true_eq_false, Bool.not_true, Bool.not_false, e1, e2, r1, hs]
    unfold CT
    have hs2 := bs n1 (by omega)
    simp (disch := omega) only [lit_0, lit_1, lit_2, lit_3, lit_4, lit_5, lit_6, lit_7, lit_8, lit_9, lit_10, lit_11, lit_12, lit_13, lit_14, lit_15, lit_16, lit_20, lit_23, lit_24, lit_31, lit_32, lit_39, lit_43, lit_45, lit_47, lit_48, lit_56, lit_57, lit_59, lit_60, lit_62, lit_63, lit_89, lit_92, lit_96, lit_97, lit_99, lit_100, lit_102, lit_103, lit_104, lit_110, lit_111, lit_115, lit_117, lit_194, lit_200, lit_644, lit_736, lit_999, lit_1000, lit_9999, lit_10000, lit_1000000000, ↓wp_mlet, ↓wp_mbp, ↓wp_ite, ↓wp_mix, ↓wp_mdiv, ↓wp_mnz, ↓wp_some, ↓wp_mbnd, ↓mlet_eq, ↓mbp_eq, ↓mbnd_eq, ↓mix_ite, ↓mdiv_ite, ↓mnz_ite, nI_add, nI_mul, nI_nat, nI_ltE, nI_leE, nI_eqE, nI_eqN, nI_Neq, nI_Nlt, nI_Nle, nI_ltN, nI_leN, ↓reduceIte, ↓Nat.reduceEqDiff, and_f, nt_e, nt_t, nl_t, nl_f, ne_t, ne_f, and_self, or_self, or_true, true_or, or_false, false_or, if_true, if_false, and_true, true_and, and_false, false_and, not_true, not_false_iff, r2 n1 (show n1 < 8 by omega)]
    refine ⟨⟨?_, ?_, ?_, ?_⟩, ?_, ?_⟩
    · refine ⟨?_, ?_, ?_, ?_, fun k hk => ?_, fun k hk => ?_, fun k hk hk9 => ?_⟩
      · simp (disch := omega) only [mup_at, up_at, fil_at, ↓reduceIte, ↓Nat.reduceEqDiff, and_f, nt_e, nt_t, nl_t, nl_f, ne_t, ne_f, and_self, or_self, or_true, true_or, or_false, false_or, if_true, if_false, and_true, true_and, and_false, false_and, not_true, not_false_iff, r0]
      · simp (disch := omega) only [mup_at, up_at, fil_at, ↓reduceIte, ↓Nat.reduceEqDiff, and_f, nt_e, nt_t, nl_t, nl_f, ne_t, ne_f, and_self, or_self, or_true, true_or, or_false, false_or, if_true, if_false, and_true, true_and, and_false, false_and, not_true, not_false_iff, r1]
      · simp (disch := omega) only [mup_at, up_at, fil_at, ↓reduceIte, ↓Nat.reduceEqDiff, and_f, nt_e, nt_t, nl_t, nl_f, ne_t, ne_f, and_self, or_self, or_true, true_or, or_false, false_or, if_true, if_false, and_true, true_and, and_false, false_and, not_true, not_false_iff, r3]
      · simp (disch := omega) only [mup_at, up_at, fil_at, ↓reduceIte, ↓Nat.reduceEqDiff, and_f, nt_e, nt_t, nl_t, nl_f, ne_t, ne_f, and_self, or_self, or_true, true_or, or_false, false_or, if_true, if_false, and_true, true_and, and_false, false_and, not_true, not_false_iff, r5]
      · by_cases hk' : k = n1
        · subst hk'
          simp (disch := omega) only [mup_at, up_at, fil_at, ↓reduceIte, ↓Nat.reduceEqDiff, and_f, nt_e, nt_t, nl_t, nl_f, ne_t, ne_f, and_self, or_self, or_true, true_or, or_false, false_or, if_true, if_false, and_true, true_and, and_false, false_and, not_true, not_false_iff]
        · simp (disch := omega) only [mup_at, up_at, fil_at, ↓reduceIte, ↓Nat.reduceEqDiff, and_f, nt_e, nt_t, nl_t, nl_f, ne_t, ne_f, and_self, or_self, or_true, true_or, or_false, false_or, if_true, if_false, and_true, true_and, and_false, false_and, not_true, not_false_iff, r2 k hk]
      · simp (disch := omega) only [mup_at, up_at, fil_at, ↓reduceIte, ↓Nat.reduceEqDiff, and_f, nt_e, nt_t, nl_t, nl_f, ne_t, ne_f, and_self, or_self, or_true, true_or, or_false, false_or, if_true, if_false, and_true, true_and, and_false, false_and, not_true, not_false_iff, rc k hk]
      · simp (disch := omega) only [mup_at, up_at, fil_at, ↓reduceIte, ↓Nat.reduceEqDiff, and_f, nt_e, nt_t, nl_t, nl_f, ne_t, ne_f, and_self, or_self, or_true, true_or, or_false, false_or, if_true, if_false, and_true, true_and, and_false, false_and, not_true, not_false_iff] at hk9
        simp (disch := omega) only [mup_at, up_at, fil_at, ↓reduceIte, ↓Nat.reduceEqDiff, and_f, nt_e, nt_t, nl_t, nl_f, ne_t, ne_f, and_self, or_self, or_true, true_or, or_false, false_or, if_true, if_false, and_true, true_and, and_false, false_and, not_true, not_false_iff, r4 k hk hk9]
    · exact Rd.of (by funext c; simp (disch := omega) only [mup_at, up_at, fil_at, ↓reduceIte, ↓Nat.reduceEqDiff, and_f, nt_e, nt_t, nl_t, nl_f, ne_t, ne_f, and_self, or_self, or_true, true_or, or_false, false_or, if_true, if_false, and_true, true_and, and_false, false_and, not_true, not_false_iff]) (fun j hj => by simp (disch := omega) only [mup_at, up_at, fil_at, ↓reduceIte, ↓Nat.reduceEqDiff, and_f, nt_e, nt_t, nl_t, nl_f, ne_t, ne_f, and_self, or_self, or_true, true_or, or_false, false_or, if_true, if_false, and_true, true_and, and_false, false_and, not_true, not_false_iff]) hd
    · exact Rb.of (fun i _ _ => by funext c; simp (disch := omega) only [mup_at, up_at, fil_at, ↓reduceIte, ↓Nat.reduceEqDiff, and_f, nt_e, nt_t, nl_t, nl_f, ne_t, ne_f, and_self, or_self, or_true, true_or, or_false, false_or, if_true, if_false, and_true, true_and, and_false, false_and, not_true, not_false_iff]) (fun j hj => by simp (disch := omega) only [mup_at, up_at, fil_at, ↓reduceIte, ↓Nat.reduceEqDiff, and_f, nt_e, nt_t, nl_t, nl_f, ne_t, ne_f, and_self, or_self, or_true, true_or, or_false, false_or, if_true, if_false, and_true, true_and, and_false, false_and, not_true, not_false_iff]) hb
    · exact Rj.of (fun i _ _ => by funext c; simp (disch := omega) only [mup_at, up_at, fil_at, ↓reduceIte, ↓Nat.reduceEqDiff, and_f, nt_e, nt_t, nl_t, nl_f, ne_t, ne_f, and_self, or_self, or_true, true_or, or_false, false_or, if_true, if_false, and_true, true_and, and_false, false_and, not_true, not_false_iff]) (fun j hj => by simp (disch := omega) only [mup_at, up_at, fil_at, ↓reduceIte, ↓Nat.reduceEqDiff, and_f, nt_e, nt_t, nl_t, nl_f, ne_t, ne_f, and_self, or_self, or_true, true_or, or_false, false_or, if_true, if_false, and_true, true_and, and_false, false_and, not_true, not_false_iff]) hj
    · simp (disch := omega) only [mup_at, up_at, fil_at, ↓reduceIte, ↓Nat.reduceEqDiff, and_f, nt_e, nt_t, nl_t, nl_f, ne_t, ne_f, and_self, or_self, or_true, true_or, or_false, false_or, if_true, if_false, and_true, true_and, and_false, false_and, not_true, not_false_iff]
    · intro a ha
      rw [pm_g ha, pm_g ha]
theorem m_shares {M : Mem} {α : Sp} {H : Nat} (hS : M 12 48 = enc α) (hi : Inv H α) (a1 a2 : Int32) : MT M 2 (sShare α a1 a2) (f_X12_shares a1 a2 M) := by
  obtain ⟨⟨b0, b1, b2, b3, b4, b5, b6, b7, b8, b9, b10, b11, b14⟩, -, -, bs, bk, -, -, -, -, -⟩ := hi
  unfold sShare f_X12_shares
  simp only [lit_0, lit_1, lit_2, lit_3, lit_4, lit_5, lit_6, lit_7, lit_8, lit_9, lit_10, lit_11, lit_12, lit_13, lit_14, lit_15, lit_16, lit_20, lit_23, lit_24, lit_31, lit_32, lit_39, lit_43, lit_45, lit_47, lit_48, lit_56, lit_57, lit_59, lit_60, lit_62, lit_63, lit_89, lit_92, lit_96, lit_97, lit_99, lit_100, lit_102, lit_103, lit_104, lit_110, lit_111, lit_115, lit_117, lit_194, lit_200, lit_644, lit_736, lit_999, lit_1000, lit_9999, lit_10000, lit_1000000000]
  rw [rng_c a2 96 (by decide)]
  simp only [m_isHolder hS (show α 0 < 2147483648 by omega), mbp_eq, Nat.reduceAdd, toNat_0]
  rcases idx_c a1 (α 0) (by omega) with ⟨n1, h1, rfl, e1⟩ | ⟨e1, -⟩
  case inr =>
    simp (disch := omega) only [lit_0, lit_1, lit_2, lit_3, lit_4, lit_5, lit_6, lit_7, lit_8, lit_9, lit_10, lit_11, lit_12, lit_13, lit_14, lit_15, lit_16, lit_20, lit_23, lit_24, lit_31, lit_32, lit_39, lit_43, lit_45, lit_47, lit_48, lit_56, lit_57, lit_59, lit_60, lit_62, lit_63, lit_89, lit_92, lit_96, lit_97, lit_99, lit_100, lit_102, lit_103, lit_104, lit_110, lit_111, lit_115, lit_117, lit_194, lit_200, lit_644, lit_736, lit_999, lit_1000, lit_9999, lit_10000, lit_1000000000, ↓wp_mlet, ↓wp_mbp, ↓wp_ite, ↓wp_mix, ↓wp_mdiv, ↓wp_mnz, ↓wp_some, ↓wp_mbnd, ↓mlet_eq, ↓mbp_eq, ↓mbnd_eq, ↓mix_ite, ↓mdiv_ite, ↓mnz_ite, nI_add, nI_mul, nI_nat, nI_ltE, nI_leE, nI_eqE, nI_eqN, nI_Neq, nI_Nlt, nI_Nle, nI_ltN, nI_leN, ↓reduceIte, ↓Nat.reduceEqDiff, and_f, nt_e, nt_t, nl_t, nl_f, ne_t, ne_f, and_self, or_self, or_true, true_or, or_false, false_or, if_true, if_false, and_true, true_and, and_false, false_and, not_true, not_false_iff, toNat_0, Bool.false_and, Bool.true_and, Bool.and_false, Bool.and_true, Bool.false_eq_true, reduceCtorEq, Bool.true_eq_false, Bool.not_true, Bool.not_false, e1]
    exact MT_20
  rcases idx_c a2 97 (by decide) with ⟨n2, h2, rfl, e2⟩ | ⟨e2, -⟩
  case inr =>
    simp (disch := omega) only [lit_0, lit_1, lit_2, lit_3, lit_4, lit_5, lit_6, lit_7, lit_8, lit_9, lit_10, lit_11, lit_12, lit_13, lit_14, lit_15, lit_16, lit_20, lit_23, lit_24, lit_31, lit_32, lit_39, lit_43, lit_45, lit_47, lit_48, lit_56, lit_57, lit_59, lit_60, lit_62, lit_63, lit_89, lit_92, lit_96, lit_97, lit_99, lit_100, lit_102, lit_103, lit_104, lit_110, lit_111, lit_115, lit_117, lit_194, lit_200, lit_644, lit_736, lit_999, lit_1000, lit_9999, lit_10000, lit_1000000000, ↓wp_mlet, ↓wp_mbp, ↓wp_ite, ↓wp_mix, ↓wp_mdiv, ↓wp_mnz, ↓wp_some, ↓wp_mbnd, ↓mlet_eq, ↓mbp_eq, ↓mbnd_eq, ↓mix_ite, ↓mdiv_ite, ↓mnz_ite, nI_add, nI_mul, nI_nat, nI_ltE, nI_leE, nI_eqE, nI_eqN, nI_Neq, nI_Nlt, nI_Nle, nI_ltN, nI_leN, ↓reduceIte, ↓Nat.reduceEqDiff, and_f, nt_e, nt_t, nl_t, nl_f, ne_t, ne_f, and_self, or_self, or_true, true_or, or_false, false_or, if_true, if_false, and_true, true_and, and_false, false_and, not_true, not_false_iff, toNat_0, Bool.false_and, Bool.true_and, Bool.and_false, Bool.and_true, Bool.false_eq_true, reduceCtorEq, Bool.true_eq_false, Bool.not_true, Bool.not_false, e1, e2]
    exact MT_21
  by_cases hs : α 1 = 0
  · simp (disch := omega) only [lit_0, lit_1, lit_2, lit_3, lit_4, lit_5, lit_6, lit_7, lit_8, lit_9, lit_10, lit_11, lit_12, lit_13, lit_14, lit_15, lit_16, lit_20, lit_23, lit_24, lit_31, lit_32, lit_39, lit_43, lit_45, lit_47, lit_48, lit_56, lit_57, lit_59, lit_60, lit_62, lit_63, lit_89, lit_92, lit_96, lit_97, lit_99, lit_100, lit_102, lit_103, lit_104, lit_110, lit_111, lit_115, lit_117, lit_194, lit_200, lit_644, lit_736, lit_999, lit_1000, lit_9999, lit_10000, lit_1000000000, ↓wp_mlet, ↓wp_mbp, ↓wp_ite, ↓wp_mix, ↓wp_mdiv, ↓wp_mnz, ↓wp_some, ↓wp_mbnd, ↓mlet_eq, ↓mbp_eq, ↓mbnd_eq, ↓mix_ite, ↓mdiv_ite, ↓mnz_ite, nI_add, nI_mul, nI_nat, nI_ltE, nI_leE, nI_eqE, nI_eqN, nI_Neq, nI_Nlt, nI_Nle, nI_ltN, nI_leN, ↓reduceIte, ↓Nat.reduceEqDiff, and_f, nt_e, nt_t, nl_t, nl_f, ne_t, ne_f, and_self, or_self, or_true, true_or, or_false, false_or, if_true, if_false, and_true, true_and, and_false, false_and, not_true, not_false_iff, toNat_0, Bool.false_and, Bool.true_and, Bool.and_false, Bool.and_true, Bool.false_eq_true, reduceCtorEq, Bool.true_eq_false, Bool.not_true, Bool.not_false, e1, e2, ms_n hS, hs]
    exact MT_refused (by decide)
  · simp (disch := omega) only [lit_0, lit_1, lit_2, lit_3, lit_4, lit_5, lit_6, lit_7, lit_8, lit_9, lit_10, lit_11, lit_12, lit_13, lit_14, lit_15, lit_16, lit_20, lit_23, lit_24, lit_31, lit_32, lit_39, lit_43, lit_45, lit_47, lit_48, lit_56, lit_57, lit_59, lit_60, lit_62, lit_63, lit_89, lit_92, lit_96, lit_97, lit_99, lit_100, lit_102, lit_103, lit_104, lit_110, lit_111, lit_115, lit_117, lit_194, lit_200, lit_644, lit_736, lit_999, lit_1000, lit_9999, lit_10000, lit_1000000000, ↓wp_mlet, ↓wp_mbp, ↓wp_ite, ↓wp_mix, ↓wp_mdiv, ↓wp_mnz, ↓wp_some, ↓wp_mbnd, ↓mlet_eq, ↓mbp_eq, ↓mbnd_eq, ↓mix_ite, ↓mdiv_ite, ↓mnz_ite, nI_add, nI_mul, nI_nat, nI_ltE, nI_leE, nI_eqE, nI_eqN, nI_Neq, nI_Nlt, nI_Nle, nI_ltN, nI_leN, ↓reduceIte, ↓Nat.reduceEqDiff, and_f, nt_e, nt_t, nl_t, nl_f, ne_t, ne_f, and_self, or_self, or_true, true_or, or_false, false_or, if_true, if_false, and_true, true_and, and_false, false_and, not_true, not_false_iff, toNat_0, Bool.false_and, Bool.true_and, Bool.and_false, Bool.and_true, Bool.false_eq_true, reduceCtorEq, Bool.true_eq_false, Bool.not_true, Bool.not_false, e1, e2, ms_n hS, hs]
    unfold MT f_X12_done
    simp (disch := omega) only [lit_0, lit_1, lit_2, lit_3, lit_4, lit_5, lit_6, lit_7, lit_8, lit_9, lit_10, lit_11, lit_12, lit_13, lit_14, lit_15, lit_16, lit_20, lit_23, lit_24, lit_31, lit_32, lit_39, lit_43, lit_45, lit_47, lit_48, lit_56, lit_57, lit_59, lit_60, lit_62, lit_63, lit_89, lit_92, lit_96, lit_97, lit_99, lit_100, lit_102, lit_103, lit_104, lit_110, lit_111, lit_115, lit_117, lit_194, lit_200, lit_644, lit_736, lit_999, lit_1000, lit_9999, lit_10000, lit_1000000000, ↓wp_mlet, ↓wp_mbp, ↓wp_ite, ↓wp_mix, ↓wp_mdiv, ↓wp_mnz, ↓wp_some, ↓wp_mbnd, ↓mlet_eq, ↓mbp_eq, ↓mbnd_eq, ↓mix_ite, ↓mdiv_ite, ↓mnz_ite, nI_add, nI_mul, nI_nat, nI_ltE, nI_leE, nI_eqE, nI_eqN, nI_Neq, nI_Nlt, nI_Nle, nI_ltN, nI_leN, ↓reduceIte, ↓Nat.reduceEqDiff, and_f, nt_e, nt_t, nl_t, nl_f, ne_t, ne_f, and_self, or_self, or_true, true_or, or_false, false_or, if_true, if_false, and_true, true_and, and_false, false_and, not_true, not_false_iff]
    refine ⟨?_, ?_, ?_, ?_⟩
    · rw [pm_ne (by omega), pm_self, hS, enc_up (by omega)]
    · intro k hk
      simp (disch := omega) only [mup_at, up_at, fil_at, ↓reduceIte, ↓Nat.reduceEqDiff, and_f, nt_e, nt_t, nl_t, nl_f, ne_t, ne_f, and_self, or_self, or_true, true_or, or_false, false_or, if_true, if_false, and_true, true_and, and_false, false_and, not_true, not_false_iff]
    · simp (disch := omega) only [mup_at, up_at, fil_at, ↓reduceIte, ↓Nat.reduceEqDiff, and_f, nt_e, nt_t, nl_t, nl_f, ne_t, ne_f, and_self, or_self, or_true, true_or, or_false, false_or, if_true, if_false, and_true, true_and, and_false, false_and, not_true, not_false_iff]
    · intro a b hab
      rw [pm_ne (by omega), pm_ne (by omega)]
def sGive (α : Sp) (a1 : Int32) : Ex :=
  if idx a1 (α 0) then
    if α 1 = 0 then .inl (3, 0) else match pl α a1.toNatClampNeg with
      | some k => .inl (4, k)
      | none => .inr (α 9 + 1, up (up α (23 + α 9) a1.toNatClampNeg) 9 (α 9 + 1))
  else .inl (20, 0)
theorem pl_lt {α : Sp} {h k : Nat} (e : pl α h = some k) : k < α 9 ∧ α (23 + k) = h := by
  obtain ⟨-, h2, h3, -⟩ := fnd_some e
  exact ⟨by omega, by simpa using h3⟩
theorem pl_no {α : Sp} {h : Nat} (e : pl α h = none) : ∀ k, k < α 9 → α (23 + k) ≠ h := fun k hk q => by
  have := fnd_none e k (Nat.zero_le _) (by omega)
  simp [q] at this
theorem pigeon : ∀ (n : Nat) (f : Nat → Nat), (∀ i, i ≤ n → f i < n) → ∃ i j, i < j ∧ j ≤ n ∧ f i = f j := by
  intro n
  induction n with
  | zero => intro f h; exact absurd (h 0 (Nat.le_refl 0)) (Nat.not_lt_zero _)
  | succ n ih =>
    intro f h
    by_cases hv : ∃ i, i ≤ n ∧ f i = f (n + 1)
    · obtain ⟨i, h1, h2⟩ := hv
      exact ⟨i, n + 1, by omega, Nat.le_refl _, h2⟩
    · have hv' : ∀ i, i ≤ n → f i ≠ f (n + 1) := fun i h1 h2 => hv ⟨i, h1, h2⟩
      have hl := h (n + 1) (Nat.le_refl _)
      obtain ⟨i, j, h1, h2, h3⟩ := ih (fun i => if f i = n then f (n + 1) else f i) (fun i hi => by
        have a1 := h i (by omega)
        have a2 := hv' i hi
        show (if f i = n then f (n + 1) else f i) < n
        split <;> omega)
      refine ⟨i, j, h1, by omega, ?_⟩
      have h3' : (if f i = n then f (n + 1) else f i) = (if f j = n then f (n + 1) else f j) := h3
      have a1 := hv' i (by omega)
      have a2 := hv' j (by omega)
      split at h3' <;> split at h3' <;> omega
/-- not all holders are shown while one of them isn't -/
theorem shown_lt {α : Sp} {H h : Nat} (hi : Inv H α) (hh : h < α 0) (hn : ∀ k, k < α 9 → α (23 + k) ≠ h) : α 9 < α 0 := by
  obtain ⟨⟨b0, b1, b2, b3, b4, b5, b6, b7, b8, b9, b10, b11, b14⟩, -, -, bs, bk, bn, -⟩ := hi
  refine Nat.lt_of_le_of_ne b9 fun q => ?_
  obtain ⟨i, j, h1, h2, h3⟩ := pigeon (α 0) (fun i => if i < α 9 then α (23 + i) else h) (fun i hi => by
    show (if i < α 9 then α (23 + i) else h) < α 0
    split
    · exact bk i (by assumption)
    · exact hh)
  have h3' : (if i < α 9 then α (23 + i) else h) = (if j < α 9 then α (23 + j) else h) := h3
  rw [if_pos (by omega)] at h3'
  split at h3'
  · exact bn i j h1 (by assumption) h3'
  · exact hn i (by omega) h3'
theorem c_give {M : Mem} {α : Sp} {H : Nat} (hR : RC (M 0) α) (hi : Inv H α) (a1 : Int32) : CT M a1 (sGive α a1) (f_X9_tryPresent 0 a1 M) := by
  obtain ⟨hk, hd, hb, hj⟩ := hR
  obtain ⟨r0, r1, r3, r5, r2, rc, r4⟩ := id hk
  have hlt := fun h => shown_lt (h := h) hi
  obtain ⟨⟨b0, b1, b2, b3, b4, b5, b6, b7, b8, b9, b10, b11, b14⟩, -, -, bs, bk, -, -, -, -, -⟩ := hi
  have bk2 : ∀ k, k < α 9 → α (23 + k) < 2147483648 := fun k h => by have := bk k h; omega
  unfold sGive f_X9_tryPresent
  simp only [c_hasHolder r0 (show α 0 < 2147483648 by omega), mbp_eq]
  rcases idx_c a1 (α 0) (by omega) with ⟨n1, h1, rfl, e1⟩ | ⟨e1, -⟩
  case inr =>
    simp (disch := omega) only [lit_0, lit_1, lit_2, lit_3, lit_4, lit_5, lit_6, lit_7, lit_8, lit_9, lit_10, lit_11, lit_12, lit_13, lit_14, lit_15, lit_16, lit_20, lit_23, lit_24, lit_31, lit_32, lit_39, lit_43, lit_45, lit_47, lit_48, lit_56, lit_57, lit_59, lit_60, lit_62, lit_63, lit_89, lit_92, lit_96, lit_97, lit_99, lit_100, lit_102, lit_103, lit_104, lit_110, lit_111, lit_115, lit_117, lit_194, lit_200, lit_644, lit_736, lit_999, lit_1000, lit_9999, lit_10000, lit_1000000000, ↓wp_mlet, ↓wp_mbp, ↓wp_ite, ↓wp_mix, ↓wp_mdiv, ↓wp_mnz, ↓wp_some, ↓wp_mbnd, ↓mlet_eq, ↓mbp_eq, ↓mbnd_eq, ↓mix_ite, ↓mdiv_ite, ↓mnz_ite, nI_add, nI_mul, nI_nat, nI_ltE, nI_leE, nI_eqE, nI_eqN, nI_Neq, nI_Nlt, nI_Nle, nI_ltN, nI_leN, ↓reduceIte, ↓Nat.reduceEqDiff, and_f, nt_e, nt_t, nl_t, nl_f, ne_t, ne_f, and_self, or_self, or_true, true_or, or_false, false_or, if_true, if_false, and_true, true_and, and_false, false_and, not_true, not_false_iff, toNat_0, Bool.false_and, Bool.true_and, Bool.and_false, Bool.and_true, Bool.false_eq_true, reduceCtorEq, Bool.true_eq_false, Bool.not_true, Bool.not_false, e1]
    exact CT_20
  by_cases hs : α 1 = 0
  · simp (disch := omega) only [lit_0, lit_1, lit_2, lit_3, lit_4, lit_5, lit_6, lit_7, lit_8, lit_9, lit_10, lit_11, lit_12, lit_13, lit_14, lit_15, lit_16, lit_20, lit_23, lit_24, lit_31, lit_32, lit_39, lit_43, lit_45, lit_47, lit_48, lit_56, lit_57, lit_59, lit_60, lit_62, lit_63, lit_89, lit_92, lit_96, lit_97, lit_99, lit_100, lit_102, lit_103, lit_104, lit_110, lit_111, lit_115, lit_117, lit_194, lit_200, lit_644, lit_736, lit_999, lit_1000, lit_9999, lit_10000, lit_1000000000, ↓wp_mlet, ↓wp_mbp, ↓wp_ite, ↓wp_mix, ↓wp_mdiv, ↓wp_mnz, ↓wp_some, ↓wp_mbnd, ↓mlet_eq, ↓mbp_eq, ↓mbnd_eq, ↓mix_ite, ↓mdiv_ite, ↓mnz_ite, nI_add, nI_mul, nI_nat, nI_ltE, nI_leE, nI_eqE, nI_eqN, nI_Neq, nI_Nlt, nI_Nle, nI_ltN, nI_leN, ↓reduceIte, ↓Nat.reduceEqDiff, and_f, nt_e, nt_t, nl_t, nl_f, ne_t, ne_f, and_self, or_self, or_true, true_or, or_false, false_or, if_true, if_false, and_true, true_and, and_false, false_and, not_true, not_false_iff, toNat_0, Bool.false_and, Bool.true_and, Bool.and_false, Bool.and_true, Bool.false_eq_true, reduceCtorEq, Bool.true_eq_false, Bool.not_true, Bool.not_false, e1, r1, hs]
    refine CT_inl rfl fun _ => ?_
    unfold f_X9_detailOf
    simp (disch := omega) only [lit_0, lit_1, lit_2, lit_3, lit_4, lit_5, lit_6, lit_7, lit_8, lit_9, lit_10, lit_11, lit_12, lit_13, lit_14, lit_15, lit_16, lit_20, lit_23, lit_24, lit_31, lit_32, lit_39, lit_43, lit_45, lit_47, lit_48, lit_56, lit_57, lit_59, lit_60, lit_62, lit_63, lit_89, lit_92, lit_96, lit_97, lit_99, lit_100, lit_102, lit_103, lit_104, lit_110, lit_111, lit_115, lit_117, lit_194, lit_200, lit_644, lit_736, lit_999, lit_1000, lit_9999, lit_10000, lit_1000000000, ↓wp_mlet, ↓wp_mbp, ↓wp_ite, ↓wp_mix, ↓wp_mdiv, ↓wp_mnz, ↓wp_some, ↓wp_mbnd, ↓mlet_eq, ↓mbp_eq, ↓mbnd_eq, ↓mix_ite, ↓mdiv_ite, ↓mnz_ite, nI_add, nI_mul, nI_nat, nI_ltE, nI_leE, nI_eqE, nI_eqN, nI_Neq, nI_Nlt, nI_Nle, nI_ltN, nI_leN, ↓reduceIte, ↓Nat.reduceEqDiff, and_f, nt_e, nt_t, nl_t, nl_f, ne_t, ne_f, and_self, or_self, or_true, true_or, or_false, false_or, if_true, if_false, and_true, true_and, and_false, false_and, not_true, not_false_iff]
  · have hp := c_placeOf (M := M) (g := 0) (h := n1) hk (by omega) (by omega) bk2
    simp (disch := omega) only [lit_0, lit_1, lit_2, lit_3, lit_4, lit_5, lit_6, lit_7, lit_8, lit_9, lit_10, lit_11, lit_12, lit_13, lit_14, lit_15, lit_16, lit_20, lit_23, lit_24, lit_31, lit_32, lit_39, lit_43, lit_45, lit_47, lit_48, lit_56, lit_57, lit_59, lit_60, lit_62, lit_63, lit_89, lit_92, lit_96, lit_97, lit_99, lit_100, lit_102, lit_103, lit_104, lit_110, lit_111, lit_115, lit_117, lit_194, lit_200, lit_644, lit_736, lit_999, lit_1000, lit_9999, lit_10000, lit_1000000000, ↓wp_mlet, ↓wp_mbp, ↓wp_ite, ↓wp_mix, ↓wp_mdiv, ↓wp_mnz, ↓wp_some, ↓wp_mbnd, ↓mlet_eq, ↓mbp_eq, ↓mbnd_eq, ↓mix_ite, ↓mdiv_ite, ↓mnz_ite, nI_add, nI_mul, nI_nat, nI_ltE, nI_leE, nI_eqE, nI_eqN, nI_Neq, nI_Nlt, nI_Nle, nI_ltN, nI_leN, ↓reduceIte, ↓Nat.reduceEqDiff, and_f, nt_e, nt_t, nl_t, nl_f, ne_t, ne_f, and_self, or_self, or_true, true_or, or_false, false_or, if_true, if_false, and_true, true_and, and_false, false_and, not_true, not_false_iff, toNat_0, Bool.false_and, Bool.true_and, Bool.and_false, Bool.and_true, Bool.false_eq_true, reduceCtorEq, Bool.true_eq_false, Bool.not_true, Bool.not_false, e1, r1, hs, hp]
    cases hq : pl α n1 with
    | some k =>
      have hk9 := (pl_lt hq).1
      simp (disch := omega) only [lit_0, lit_1, lit_2, lit_3, lit_4, lit_5, lit_6, lit_7, lit_8, lit_9, lit_10, lit_11, lit_12, lit_13, lit_14, lit_15, lit_16, lit_20, lit_23, lit_24, lit_31, lit_32, lit_39, lit_43, lit_45, lit_47, lit_48, lit_56, lit_57, lit_59, lit_60, lit_62, lit_63, lit_89, lit_92, lit_96, lit_97, lit_99, lit_100, lit_102, lit_103, lit_104, lit_110, lit_111, lit_115, lit_117, lit_194, lit_200, lit_644, lit_736, lit_999, lit_1000, lit_9999, lit_10000, lit_1000000000, ↓wp_mlet, ↓wp_mbp, ↓wp_ite, ↓wp_mix, ↓wp_mdiv, ↓wp_mnz, ↓wp_some, ↓wp_mbnd, ↓mlet_eq, ↓mbp_eq, ↓mbnd_eq, ↓mix_ite, ↓mdiv_ite, ↓mnz_ite, nI_add, nI_mul, nI_nat, nI_ltE, nI_leE, nI_eqE, nI_eqN, nI_Neq, nI_Nlt, nI_Nle, nI_ltN, nI_leN, ↓reduceIte, ↓Nat.reduceEqDiff, and_f, nt_e, nt_t, nl_t, nl_f, ne_t, ne_f, and_self, or_self, or_true, true_or, or_false, false_or, if_true, if_false, and_true, true_and, and_false, false_and, not_true, not_false_iff, oI]
      refine CT_inl rfl fun _ => ?_
      unfold f_X9_detailOf
      simp (disch := omega) only [lit_0, lit_1, lit_2, lit_3, lit_4, lit_5, lit_6, lit_7, lit_8, lit_9, lit_10, lit_11, lit_12, lit_13, lit_14, lit_15, lit_16, lit_20, lit_23, lit_24, lit_31, lit_32, lit_39, lit_43, lit_45, lit_47, lit_48, lit_56, lit_57, lit_59, lit_60, lit_62, lit_63, lit_89, lit_92, lit_96, lit_97, lit_99, lit_100, lit_102, lit_103, lit_104, lit_110, lit_111, lit_115, lit_117, lit_194, lit_200, lit_644, lit_736, lit_999, lit_1000, lit_9999, lit_10000, lit_1000000000, ↓wp_mlet, ↓wp_mbp, ↓wp_ite, ↓wp_mix, ↓wp_mdiv, ↓wp_mnz, ↓wp_some, ↓wp_mbnd, ↓mlet_eq, ↓mbp_eq, ↓mbnd_eq, ↓mix_ite, ↓mdiv_ite, ↓mnz_ite, nI_add, nI_mul, nI_nat, nI_ltE, nI_leE, nI_eqE, nI_eqN, nI_Neq, nI_Nlt, nI_Nle, nI_ltN, nI_leN, ↓reduceIte, ↓Nat.reduceEqDiff, and_f, nt_e, nt_t, nl_t, nl_f, ne_t, ne_f, and_self, or_self, or_true, true_or, or_false, false_or, if_true, if_false, and_true, true_and, and_false, false_and, not_true, not_false_iff, hp, hq, oI]
    | none =>
      have h9 := hlt n1 h1 (pl_no hq)
      unfold CT
      simp (disch := omega) only [lit_0, lit_1, lit_2, lit_3, lit_4, lit_5, lit_6, lit_7, lit_8, lit_9, lit_10, lit_11, lit_12, lit_13, lit_14, lit_15, lit_16, lit_20, lit_23, lit_24, lit_31, lit_32, lit_39, lit_43, lit_45, lit_47, lit_48, lit_56, lit_57, lit_59, lit_60, lit_62, lit_63, lit_89, lit_92, lit_96, lit_97, lit_99, lit_100, lit_102, lit_103, lit_104, lit_110, lit_111, lit_115, lit_117, lit_194, lit_200, lit_644, lit_736, lit_999, lit_1000, lit_9999, lit_10000, lit_1000000000, ↓wp_mlet, ↓wp_mbp, ↓wp_ite, ↓wp_mix, ↓wp_mdiv, ↓wp_mnz, ↓wp_some, ↓wp_mbnd, ↓mlet_eq, ↓mbp_eq, ↓mbnd_eq, ↓mix_ite, ↓mdiv_ite, ↓mnz_ite, nI_add, nI_mul, nI_nat, nI_ltE, nI_leE, nI_eqE, nI_eqN, nI_Neq, nI_Nlt, nI_Nle, nI_ltN, nI_leN, ↓reduceIte, ↓Nat.reduceEqDiff, and_f, nt_e, nt_t, nl_t, nl_f, ne_t, ne_f, and_self, or_self, or_true, true_or, or_false, false_or, if_true, if_false, and_true, true_and, and_false, false_and, not_true, not_false_iff, oI, f_X6_show, r5]
      simp (disch := omega) only [mup_at, up_at, fil_at, ↓reduceIte, ↓Nat.reduceEqDiff, and_f, nt_e, nt_t, nl_t, nl_f, ne_t, ne_f, and_self, or_self, or_true, true_or, or_false, false_or, if_true, if_false, and_true, true_and, and_false, false_and, not_true, not_false_iff]
      refine ⟨⟨?_, ?_, ?_, ?_⟩, ?_, ?_⟩
      · refine ⟨?_, ?_, ?_, ?_, fun k hk => ?_, fun k hk => ?_, fun k hk hk9 => ?_⟩
        · simp (disch := omega) only [mup_at, up_at, fil_at, ↓reduceIte, ↓Nat.reduceEqDiff, and_f, nt_e, nt_t, nl_t, nl_f, ne_t, ne_f, and_self, or_self, or_true, true_or, or_false, false_or, if_true, if_false, and_true, true_and, and_false, false_and, not_true, not_false_iff, r0]
        · simp (disch := omega) only [mup_at, up_at, fil_at, ↓reduceIte, ↓Nat.reduceEqDiff, and_f, nt_e, nt_t, nl_t, nl_f, ne_t, ne_f, and_self, or_self, or_true, true_or, or_false, false_or, if_true, if_false, and_true, true_and, and_false, false_and, not_true, not_false_iff, r1]
        · simp (disch := omega) only [mup_at, up_at, fil_at, ↓reduceIte, ↓Nat.reduceEqDiff, and_f, nt_e, nt_t, nl_t, nl_f, ne_t, ne_f, and_self, or_self, or_true, true_or, or_false, false_or, if_true, if_false, and_true, true_and, and_false, false_and, not_true, not_false_iff, r3]
        · simp (disch := omega) only [mup_at, up_at, fil_at, ↓reduceIte, ↓Nat.reduceEqDiff, and_f, nt_e, nt_t, nl_t, nl_f, ne_t, ne_f, and_self, or_self, or_true, true_or, or_false, false_or, if_true, if_false, and_true, true_and, and_false, false_and, not_true, not_false_iff, r5, nI_add]
        · simp (disch := omega) only [mup_at, up_at, fil_at, ↓reduceIte, ↓Nat.reduceEqDiff, and_f, nt_e, nt_t, nl_t, nl_f, ne_t, ne_f, and_self, or_self, or_true, true_or, or_false, false_or, if_true, if_false, and_true, true_and, and_false, false_and, not_true, not_false_iff, r2 k hk]
        · simp (disch := omega) only [mup_at, up_at, fil_at, ↓reduceIte, ↓Nat.reduceEqDiff, and_f, nt_e, nt_t, nl_t, nl_f, ne_t, ne_f, and_self, or_self, or_true, true_or, or_false, false_or, if_true, if_false, and_true, true_and, and_false, false_and, not_true, not_false_iff, rc k hk]
        · simp (disch := omega) only [mup_at, up_at, fil_at, ↓reduceIte, ↓Nat.reduceEqDiff, and_f, nt_e, nt_t, nl_t, nl_f, ne_t, ne_f, and_self, or_self, or_true, true_or, or_false, false_or, if_true, if_false, and_true, true_and, and_false, false_and, not_true, not_false_iff] at hk9
          by_cases hk' : k = α 9
          · subst hk'
            simp (disch := omega) only [mup_at, up_at, fil_at, ↓reduceIte, ↓Nat.reduceEqDiff, and_f, nt_e, nt_t, nl_t, nl_f, ne_t, ne_f, and_self, or_self, or_true, true_or, or_false, false_or, if_true, if_false, and_true, true_and, and_false, false_and, not_true, not_false_iff]
          · simp (disch := omega) only [mup_at, up_at, fil_at, ↓reduceIte, ↓Nat.reduceEqDiff, and_f, nt_e, nt_t, nl_t, nl_f, ne_t, ne_f, and_self, or_self, or_true, true_or, or_false, false_or, if_true, if_false, and_true, true_and, and_false, false_and, not_true, not_false_iff, r4 k hk (by omega)]
      · exact Rd.of (by funext c; simp (disch := omega) only [mup_at, up_at, fil_at, ↓reduceIte, ↓Nat.reduceEqDiff, and_f, nt_e, nt_t, nl_t, nl_f, ne_t, ne_f, and_self, or_self, or_true, true_or, or_false, false_or, if_true, if_false, and_true, true_and, and_false, false_and, not_true, not_false_iff]) (fun j hj => by simp (disch := omega) only [mup_at, up_at, fil_at, ↓reduceIte, ↓Nat.reduceEqDiff, and_f, nt_e, nt_t, nl_t, nl_f, ne_t, ne_f, and_self, or_self, or_true, true_or, or_false, false_or, if_true, if_false, and_true, true_and, and_false, false_and, not_true, not_false_iff]) hd
      · exact Rb.of (fun i _ _ => by funext c; simp (disch := omega) only [mup_at, up_at, fil_at, ↓reduceIte, ↓Nat.reduceEqDiff, and_f, nt_e, nt_t, nl_t, nl_f, ne_t, ne_f, and_self, or_self, or_true, true_or, or_false, false_or, if_true, if_false, and_true, true_and, and_false, false_and, not_true, not_false_iff]) (fun j hj => by simp (disch := omega) only [mup_at, up_at, fil_at, ↓reduceIte, ↓Nat.reduceEqDiff, and_f, nt_e, nt_t, nl_t, nl_f, ne_t, ne_f, and_self, or_self, or_true, true_or, or_false, false_or, if_true, if_false, and_true, true_and, and_false, false_and, not_true, not_false_iff]) hb
      · exact Rj.of (fun i _ _ => by funext c; simp (disch := omega) only [mup_at, up_at, fil_at, ↓reduceIte, ↓Nat.reduceEqDiff, and_f, nt_e, nt_t, nl_t, nl_f, ne_t, ne_f, and_self, or_self, or_true, true_or, or_false, false_or, if_true, if_false, and_true, true_and, and_false, false_and, not_true, not_false_iff]) (fun j hj => by simp (disch := omega) only [mup_at, up_at, fil_at, ↓reduceIte, ↓Nat.reduceEqDiff, and_f, nt_e, nt_t, nl_t, nl_f, ne_t, ne_f, and_self, or_self, or_true, true_or, or_false, false_or, if_true, if_false, and_true, true_and, and_false, false_and, not_true, not_false_iff]) hj
      · simp (disch := omega) only [mup_at, up_at, fil_at, ↓reduceIte, ↓Nat.reduceEqDiff, and_f, nt_e, nt_t, nl_t, nl_f, ne_t, ne_f, and_self, or_self, or_true, true_or, or_false, false_or, if_true, if_false, and_true, true_and, and_false, false_and, not_true, not_false_iff, r5, nI_add]
      · intro a ha
        rw [pm_g ha, pm_g ha, pm_g ha]
theorem m_presents {M : Mem} {α : Sp} {H : Nat} (hS : M 12 48 = enc α) (hi : Inv H α) (a1 : Int32) : MT M 1 (sGive α a1) (f_X12_presents a1 M) := by
  have hlt := fun h => shown_lt (h := h) hi
  obtain ⟨⟨b0, b1, b2, b3, b4, b5, b6, b7, b8, b9, b10, b11, b14⟩, -, -, bs, bk, -, -, -, -, -⟩ := hi
  have bk2 : ∀ k, k < α 9 → α (23 + k) < 2147483648 := fun k h => by have := bk k h; omega
  unfold sGive f_X12_presents
  simp only [lit_0, lit_1, lit_2, lit_3, lit_4, lit_5, lit_6, lit_7, lit_8, lit_9, lit_10, lit_11, lit_12, lit_13, lit_14, lit_15, lit_16, lit_20, lit_23, lit_24, lit_31, lit_32, lit_39, lit_43, lit_45, lit_47, lit_48, lit_56, lit_57, lit_59, lit_60, lit_62, lit_63, lit_89, lit_92, lit_96, lit_97, lit_99, lit_100, lit_102, lit_103, lit_104, lit_110, lit_111, lit_115, lit_117, lit_194, lit_200, lit_644, lit_736, lit_999, lit_1000, lit_9999, lit_10000, lit_1000000000, m_isHolder hS (show α 0 < 2147483648 by omega), mbp_eq, toNat_0]
  rcases idx_c a1 (α 0) (by omega) with ⟨n1, h1, rfl, e1⟩ | ⟨e1, -⟩
  case inr =>
    simp (disch := omega) only [lit_0, lit_1, lit_2, lit_3, lit_4, lit_5, lit_6, lit_7, lit_8, lit_9, lit_10, lit_11, lit_12, lit_13, lit_14, lit_15, lit_16, lit_20, lit_23, lit_24, lit_31, lit_32, lit_39, lit_43, lit_45, lit_47, lit_48, lit_56, lit_57, lit_59, lit_60, lit_62, lit_63, lit_89, lit_92, lit_96, lit_97, lit_99, lit_100, lit_102, lit_103, lit_104, lit_110, lit_111, lit_115, lit_117, lit_194, lit_200, lit_644, lit_736, lit_999, lit_1000, lit_9999, lit_10000, lit_1000000000, ↓wp_mlet, ↓wp_mbp, ↓wp_ite, ↓wp_mix, ↓wp_mdiv, ↓wp_mnz, ↓wp_some, ↓wp_mbnd, ↓mlet_eq, ↓mbp_eq, ↓mbnd_eq, ↓mix_ite, ↓mdiv_ite, ↓mnz_ite, nI_add, nI_mul, nI_nat, nI_ltE, nI_leE, nI_eqE, nI_eqN, nI_Neq, nI_Nlt, nI_Nle, nI_ltN, nI_leN, ↓reduceIte, ↓Nat.reduceEqDiff, and_f, nt_e, nt_t, nl_t, nl_f, ne_t, ne_f, and_self, or_self, or_true, true_or, or_false, false_or, if_true, if_false, and_true, true_and, and_false, false_and, not_true, not_false_iff, toNat_0, Bool.false_and, Bool.true_and, Bool.and_false, Bool.and_true, Bool.false_eq_true, reduceCtorEq, Bool.true_eq_false, Bool.not_true, Bool.not_false, e1]
    exact MT_20
  by_cases hs : α 1 = 0
  · simp (disch := omega) only [lit_0, lit_1, lit_2, lit_3, lit_4, lit_5, lit_6, lit_7, lit_8, lit_9, lit_10, lit_11, lit_12, lit_13, lit_14, lit_15, lit_16, lit_20, lit_23, lit_24, lit_31, lit_32, lit_39, lit_43, lit_45, lit_47, lit_48, lit_56, lit_57, lit_59, lit_60, lit_62, lit_63, lit_89, lit_92, lit_96, lit_97, lit_99, lit_100, lit_102, lit_103, lit_104, lit_110, lit_111, lit_115, lit_117, lit_194, lit_200, lit_644, lit_736, lit_999, lit_1000, lit_9999, lit_10000, lit_1000000000, ↓wp_mlet, ↓wp_mbp, ↓wp_ite, ↓wp_mix, ↓wp_mdiv, ↓wp_mnz, ↓wp_some, ↓wp_mbnd, ↓mlet_eq, ↓mbp_eq, ↓mbnd_eq, ↓mix_ite, ↓mdiv_ite, ↓mnz_ite, nI_add, nI_mul, nI_nat, nI_ltE, nI_leE, nI_eqE, nI_eqN, nI_Neq, nI_Nlt, nI_Nle, nI_ltN, nI_leN, ↓reduceIte, ↓Nat.reduceEqDiff, and_f, nt_e, nt_t, nl_t, nl_f, ne_t, ne_f, and_self, or_self, or_true, true_or, or_false, false_or, if_true, if_false, and_true, true_and, and_false, false_and, not_true, not_false_iff, toNat_0, Bool.false_and, Bool.true_and, Bool.and_false, Bool.and_true, Bool.false_eq_true, reduceCtorEq, Bool.true_eq_false, Bool.not_true, Bool.not_false, e1, ms_n hS, hs]
    exact MT_refused (by decide)
  · have hp := m_placeOf (M := M) (h := n1) hS (by omega) (by omega) bk2
    simp (disch := omega) only [lit_0, lit_1, lit_2, lit_3, lit_4, lit_5, lit_6, lit_7, lit_8, lit_9, lit_10, lit_11, lit_12, lit_13, lit_14, lit_15, lit_16, lit_20, lit_23, lit_24, lit_31, lit_32, lit_39, lit_43, lit_45, lit_47, lit_48, lit_56, lit_57, lit_59, lit_60, lit_62, lit_63, lit_89, lit_92, lit_96, lit_97, lit_99, lit_100, lit_102, lit_103, lit_104, lit_110, lit_111, lit_115, lit_117, lit_194, lit_200, lit_644, lit_736, lit_999, lit_1000, lit_9999, lit_10000, lit_1000000000, ↓wp_mlet, ↓wp_mbp, ↓wp_ite, ↓wp_mix, ↓wp_mdiv, ↓wp_mnz, ↓wp_some, ↓wp_mbnd, ↓mlet_eq, ↓mbp_eq, ↓mbnd_eq, ↓mix_ite, ↓mdiv_ite, ↓mnz_ite, nI_add, nI_mul, nI_nat, nI_ltE, nI_leE, nI_eqE, nI_eqN, nI_Neq, nI_Nlt, nI_Nle, nI_ltN, nI_leN, ↓reduceIte, ↓Nat.reduceEqDiff, and_f, nt_e, nt_t, nl_t, nl_f, ne_t, ne_f, and_self, or_self, or_true, true_or, or_false, false_or, if_true, if_false, and_true, true_and, and_false, false_and, not_true, not_false_iff, toNat_0, Bool.false_and, Bool.true_and, Bool.and_false, Bool.and_true, Bool.false_eq_true, reduceCtorEq, Bool.true_eq_false, Bool.not_true, Bool.not_false, e1, ms_n hS, hs, hp]
    cases hq : pl α n1 with
    | some k =>
      have hk9 := (pl_lt hq).1
      simp (disch := omega) only [lit_0, lit_1, lit_2, lit_3, lit_4, lit_5, lit_6, lit_7, lit_8, lit_9, lit_10, lit_11, lit_12, lit_13, lit_14, lit_15, lit_16, lit_20, lit_23, lit_24, lit_31, lit_32, lit_39, lit_43, lit_45, lit_47, lit_48, lit_56, lit_57, lit_59, lit_60, lit_62, lit_63, lit_89, lit_92, lit_96, lit_97, lit_99, lit_100, lit_102, lit_103, lit_104, lit_110, lit_111, lit_115, lit_117, lit_194, lit_200, lit_644, lit_736, lit_999, lit_1000, lit_9999, lit_10000, lit_1000000000, ↓wp_mlet, ↓wp_mbp, ↓wp_ite, ↓wp_mix, ↓wp_mdiv, ↓wp_mnz, ↓wp_some, ↓wp_mbnd, ↓mlet_eq, ↓mbp_eq, ↓mbnd_eq, ↓mix_ite, ↓mdiv_ite, ↓mnz_ite, nI_add, nI_mul, nI_nat, nI_ltE, nI_leE, nI_eqE, nI_eqN, nI_Neq, nI_Nlt, nI_Nle, nI_ltN, nI_leN, ↓reduceIte, ↓Nat.reduceEqDiff, and_f, nt_e, nt_t, nl_t, nl_f, ne_t, ne_f, and_self, or_self, or_true, true_or, or_false, false_or, if_true, if_false, and_true, true_and, and_false, false_and, not_true, not_false_iff, oI]
      exact MT_refused (by decide)
    | none =>
      have h9 := hlt n1 h1 (pl_no hq)
      unfold MT f_X12_done
      simp (disch := omega) only [lit_0, lit_1, lit_2, lit_3, lit_4, lit_5, lit_6, lit_7, lit_8, lit_9, lit_10, lit_11, lit_12, lit_13, lit_14, lit_15, lit_16, lit_20, lit_23, lit_24, lit_31, lit_32, lit_39, lit_43, lit_45, lit_47, lit_48, lit_56, lit_57, lit_59, lit_60, lit_62, lit_63, lit_89, lit_92, lit_96, lit_97, lit_99, lit_100, lit_102, lit_103, lit_104, lit_110, lit_111, lit_115, lit_117, lit_194, lit_200, lit_644, lit_736, lit_999, lit_1000, lit_9999, lit_10000, lit_1000000000, ↓wp_mlet, ↓wp_mbp, ↓wp_ite, ↓wp_mix, ↓wp_mdiv, ↓wp_mnz, ↓wp_some, ↓wp_mbnd, ↓mlet_eq, ↓mbp_eq, ↓mbnd_eq, ↓mix_ite, ↓mdiv_ite, ↓mnz_ite, nI_add, nI_mul, nI_nat, nI_ltE, nI_leE, nI_eqE, nI_eqN, nI_Neq, nI_Nlt, nI_Nle, nI_ltN, nI_leN, ↓reduceIte, ↓Nat.reduceEqDiff, and_f, nt_e, nt_t, nl_t, nl_f, ne_t, ne_f, and_self, or_self, or_true, true_or, or_false, false_or, if_true, if_false, and_true, true_and, and_false, false_and, not_true, not_false_iff, mup_at, up_at, fil_at, ↓reduceIte, ↓Nat.reduceEqDiff, and_f, nt_e, nt_t, nl_t, nl_f, ne_t, ne_f, and_self, or_self, or_true, true_or, or_false, false_or, if_true, if_false, and_true, true_and, and_false, false_and, not_true, not_false_iff, oI, ms_n hS]
      refine ⟨?_, ?_, ?_⟩
      · rw [pm_ne (by omega), pm_self, pm_self, hS, enc_up (by omega), enc_up (by omega)]
      · intro k hk
        simp (disch := omega) only [↓reduceIte, ↓Nat.reduceEqDiff, and_f, nt_e, nt_t, nl_t, nl_f, ne_t, ne_f, and_self, or_self, or_true, true_or, or_false, false_or, if_true, if_false, and_true, true_and, and_false, false_and, not_true, not_false_iff]
      · intro a b hab
        rw [pm_ne (by omega), pm_ne (by omega), pm_ne (by omega)]
/-! a key taken back -/
def backSp (α : Sp) (k : Nat) : Sp := fun j => if j = 9 then α 9 - 1 else if 23 + k ≤ j ∧ j < 23 + (α 9 - 1) then α (j + 1) else if j = 23 + (α 9 - 1) then 0 else α j
theorem backSp_at (α : Sp) (k j : Nat) : backSp α k j = if j = 9 then α 9 - 1 else if 23 + k ≤ j ∧ j < 23 + (α 9 - 1) then α (j + 1) else if j = 23 + (α 9 - 1) then 0 else α j := Eq.trans rfl rfl
def sBack (α : Sp) (a1 : Int32) : Ex :=
  if idx a1 (α 0) then
    if α 1 = 0 then .inl (3, 0) else match pl α a1.toNatClampNeg with
      | none => .inl (5, a1.toNatClampNeg)
      | some k => .inr (α 9 - 1, backSp α k)
  else .inl (20, 0)
theorem c_hide {M : Mem} {k n : Nat} (hn : n ≤ 8) (hk : k < n) (h5 : M 0 1 5 = nI n) : f_X6_hide 0 (nI k) M = some (nI (n - 1), fil (mup M 0 1 5 (nI (n - 1))) 0 4 k (n - 1) (fun c => M 0 4 (c + 1))) := by
  unfold f_X6_hide
  generalize hN : (1000 : Nat) = N
  have q5 : ∀ x, (fil (mup M 0 1 5 (nI (n - 1))) 0 4 k x (fun c => M 0 4 (c + 1))) 0 1 5 = nI (n - 1) := fun x => by
    rw [fil_ne (by decide), mup_at, if_pos (by decide)]
  have key := mloopL (F := fun n x s kk => f_X6_hide_L12 0 n x s kk) (c := n - 1) k (fun x => fil (mup M 0 1 5 (nI (n - 1))) 0 4 k x (fun c => M 0 4 (c + 1))) (fun m x kk hkx hx => by
    have q4 : (fil (mup M 0 1 5 (nI (n - 1))) 0 4 k x (fun c => M 0 4 (c + 1))) 0 4 (x + 1) = M 0 4 (x + 1) := by
      rw [fil_at, if_neg (by omega), pm_ne (by decide)]
    rw [f_X6_hide_L12.eq_2]
    simp (disch := omega) only [lit_0, lit_1, lit_2, lit_3, lit_4, lit_5, lit_6, lit_7, lit_8, lit_9, lit_10, lit_11, lit_12, lit_13, lit_14, lit_15, lit_16, lit_20, lit_23, lit_24, lit_31, lit_32, lit_39, lit_43, lit_45, lit_47, lit_48, lit_56, lit_57, lit_59, lit_60, lit_62, lit_63, lit_89, lit_92, lit_96, lit_97, lit_99, lit_100, lit_102, lit_103, lit_104, lit_110, lit_111, lit_115, lit_117, lit_194, lit_200, lit_644, lit_736, lit_999, lit_1000, lit_9999, lit_10000, lit_1000000000, ↓wp_mlet, ↓wp_mbp, ↓wp_ite, ↓wp_mix, ↓wp_mdiv, ↓wp_mnz, ↓wp_some, ↓wp_mbnd, ↓mlet_eq, ↓mbp_eq, ↓mbnd_eq, ↓mix_ite, ↓mdiv_ite, ↓mnz_ite, nI_add, nI_mul, nI_nat, nI_ltE, nI_leE, nI_eqE, nI_eqN, nI_Neq, nI_Nlt, nI_Nle, nI_ltN, nI_leN, ↓reduceIte, ↓Nat.reduceEqDiff, and_f, nt_e, nt_t, nl_t, nl_f, ne_t, ne_f, and_self, or_self, or_true, true_or, or_false, false_or, if_true, if_false, and_true, true_and, and_false, false_and, not_true, not_false_iff, q5, q4]
    rw [fil_s hkx rfl]) (fun m kk => by
    rw [f_X6_hide_L12.eq_2]
    simp (disch := omega) only [lit_0, lit_1, lit_2, lit_3, lit_4, lit_5, lit_6, lit_7, lit_8, lit_9, lit_10, lit_11, lit_12, lit_13, lit_14, lit_15, lit_16, lit_20, lit_23, lit_24, lit_31, lit_32, lit_39, lit_43, lit_45, lit_47, lit_48, lit_56, lit_57, lit_59, lit_60, lit_62, lit_63, lit_89, lit_92, lit_96, lit_97, lit_99, lit_100, lit_102, lit_103, lit_104, lit_110, lit_111, lit_115, lit_117, lit_194, lit_200, lit_644, lit_736, lit_999, lit_1000, lit_9999, lit_10000, lit_1000000000, ↓wp_mlet, ↓wp_mbp, ↓wp_ite, ↓wp_mix, ↓wp_mdiv, ↓wp_mnz, ↓wp_some, ↓wp_mbnd, ↓mlet_eq, ↓mbp_eq, ↓mbnd_eq, ↓mix_ite, ↓mdiv_ite, ↓mnz_ite, nI_add, nI_mul, nI_nat, nI_ltE, nI_leE, nI_eqE, nI_eqN, nI_Neq, nI_Nlt, nI_Nle, nI_ltN, nI_leN, ↓reduceIte, ↓Nat.reduceEqDiff, and_f, nt_e, nt_t, nl_t, nl_f, ne_t, ne_f, and_self, or_self, or_true, true_or, or_false, false_or, if_true, if_false, and_true, true_and, and_false, false_and, not_true, not_false_iff, q5])
  have := key (n - 1 - k) N k (fun M7 => some (M7 0 1 5, M7)) (Nat.le_refl _) (by omega) (by omega)
  rw [fil_0, q5] at this
  simp (disch := omega) only [lit_0, lit_1, lit_2, lit_3, lit_4, lit_5, lit_6, lit_7, lit_8, lit_9, lit_10, lit_11, lit_12, lit_13, lit_14, lit_15, lit_16, lit_20, lit_23, lit_24, lit_31, lit_32, lit_39, lit_43, lit_45, lit_47, lit_48, lit_56, lit_57, lit_59, lit_60, lit_62, lit_63, lit_89, lit_92, lit_96, lit_97, lit_99, lit_100, lit_102, lit_103, lit_104, lit_110, lit_111, lit_115, lit_117, lit_194, lit_200, lit_644, lit_736, lit_999, lit_1000, lit_9999, lit_10000, lit_1000000000, ↓wp_mlet, ↓wp_mbp, ↓wp_ite, ↓wp_mix, ↓wp_mdiv, ↓wp_mnz, ↓wp_some, ↓wp_mbnd, ↓mlet_eq, ↓mbp_eq, ↓mbnd_eq, ↓mix_ite, ↓mdiv_ite, ↓mnz_ite, nI_add, nI_mul, nI_nat, nI_ltE, nI_leE, nI_eqE, nI_eqN, nI_Neq, nI_Nlt, nI_Nle, nI_ltN, nI_leN, ↓reduceIte, ↓Nat.reduceEqDiff, and_f, nt_e, nt_t, nl_t, nl_f, ne_t, ne_f, and_self, or_self, or_true, true_or, or_false, false_or, if_true, if_false, and_true, true_and, and_false, false_and, not_true, not_false_iff, h5, nI_subE]
  exact this
theorem c_back {M : Mem} {α : Sp} {H : Nat} (hR : RC (M 0) α) (hi : Inv H α) (a1 : Int32) : CT M a1 (sBack α a1) (f_X9_tryTakeBack 0 a1 M) := by
  obtain ⟨hk, hd, hb, hj⟩ := hR
  obtain ⟨r0, r1, r3, r5, r2, rc, r4⟩ := id hk
  obtain ⟨⟨b0, b1, b2, b3, b4, b5, b6, b7, b8, b9, b10, b11, b14⟩, -, -, bs, bk, -, -, -, -, -⟩ := hi
  have bk2 : ∀ k, k < α 9 → α (23 + k) < 2147483648 := fun k h => by have := bk k h; omega
  unfold sBack f_X9_tryTakeBack
  simp only [c_hasHolder r0 (show α 0 < 2147483648 by omega), mbp_eq]
  rcases idx_c a1 (α 0) (by omega) with ⟨n1, h1, rfl, e1⟩ | ⟨e1, -⟩
  case inr =>
    simp (disch := omega) only [lit_0, lit_1, lit_2, lit_3, lit_4, lit_5, lit_6, lit_7, lit_8, lit_9, lit_10, lit_11, lit_12, lit_13, lit_14, lit_15, lit_16, lit_20, lit_23, lit_24, lit_31, lit_32, lit_39, lit_43, lit_45, lit_47, lit_48, lit_56, lit_57, lit_59, lit_60, lit_62, lit_63, lit_89, lit_92, lit_96, lit_97, lit_99, lit_100, lit_102, lit_103, lit_104, lit_110, lit_111, lit_115, lit_117, lit_194, lit_200, lit_644, lit_736, lit_999, lit_1000, lit_9999, lit_10000, lit_1000000000, ↓wp_mlet, ↓wp_mbp, ↓wp_ite, ↓wp_mix, ↓wp_mdiv, ↓wp_mnz, ↓wp_some, ↓wp_mbnd, ↓mlet_eq, ↓mbp_eq, ↓mbnd_eq, ↓mix_ite, ↓mdiv_ite, ↓mnz_ite, nI_add, nI_mul, nI_nat, nI_ltE, nI_leE, nI_eqE, nI_eqN, nI_Neq, nI_Nlt, nI_Nle, nI_ltN, nI_leN, ↓reduceIte, ↓Nat.reduceEqDiff, and_f, nt_e, nt_t, nl_t, nl_f, ne_t, ne_f, and_self, or_self, or_true, true_or, or_false, false_or, if_true, if_false, and_true, true_and, and_false, false_and, not_true, not_false_iff, toNat_0, Bool.false_and, Bool.true_and, Bool.and_false, Bool.and_true, Bool.false_eq_true, reduceCtorEq, Bool.true_eq_false, Bool.not_true, Bool.not_false, e1]
    exact CT_20
  by_cases hs : α 1 = 0
  · simp (disch := omega) only [lit_0, lit_1, lit_2, lit_3, lit_4, lit_5, lit_6, lit_7, lit_8, lit_9, lit_10, lit_11, lit_12, lit_13, lit_14, lit_15, lit_16, lit_20, lit_23, lit_24, lit_31, lit_32, lit_39, lit_43, lit_45, lit_47, lit_48, lit_56, lit_57, lit_59, lit_60, lit_62, lit_63, lit_89, lit_92, lit_96, lit_97, lit_99, lit_100, lit_102, lit_103, lit_104, lit_110, lit_111, lit_115, lit_117, lit_194, lit_200, lit_644, lit_736, lit_999, lit_1000, lit_9999, lit_10000, lit_1000000000, ↓wp_mlet, ↓wp_mbp, ↓wp_ite, ↓wp_mix, ↓wp_mdiv, ↓wp_mnz, ↓wp_some, ↓wp_mbnd, ↓mlet_eq, ↓mbp_eq, ↓mbnd_eq, ↓mix_ite, ↓mdiv_ite, ↓mnz_ite, nI_add, nI_mul, nI_nat, nI_ltE, nI_leE, nI_eqE, nI_eqN, nI_Neq, nI_Nlt, nI_Nle, nI_ltN, nI_leN, ↓reduceIte, ↓Nat.reduceEqDiff, and_f, nt_e, nt_t, nl_t, nl_f, ne_t, ne_f, and_self, or_self, or_true, true_or, or_false, false_or, if_true, if_false, and_true, true_and, and_false, false_and, not_true, not_false_iff, toNat_0, Bool.false_and, Bool.true_and, Bool.and_false, Bool.and_true, Bool.false_eq_true, reduceCtorEq, Bool.true_eq_false, Bool.not_true, Bool.not_false, e1, r1, hs]
    refine CT_inl rfl fun _ => ?_
    unfold f_X9_detailOf
    simp (disch := omega) only [lit_0, lit_1, lit_2, lit_3, lit_4, lit_5, lit_6, lit_7, lit_8, lit_9, lit_10, lit_11, lit_12, lit_13, lit_14, lit_15, lit_16, lit_20, lit_23, lit_24, lit_31, lit_32, lit_39, lit_43, lit_45, lit_47, lit_48, lit_56, lit_57, lit_59, lit_60, lit_62, lit_63, lit_89, lit_92, lit_96, lit_97, lit_99, lit_100, lit_102, lit_103, lit_104, lit_110, lit_111, lit_115, lit_117, lit_194, lit_200, lit_644, lit_736, lit_999, lit_1000, lit_9999, lit_10000, lit_1000000000, ↓wp_mlet, ↓wp_mbp, ↓wp_ite, ↓wp_mix, ↓wp_mdiv, ↓wp_mnz, ↓wp_some, ↓wp_mbnd, ↓mlet_eq, ↓mbp_eq, ↓mbnd_eq, ↓mix_ite, ↓mdiv_ite, ↓mnz_ite, nI_add, nI_mul, nI_nat, nI_ltE, nI_leE, nI_eqE, nI_eqN, nI_Neq, nI_Nlt, nI_Nle, nI_ltN, nI_leN, ↓reduceIte, ↓Nat.reduceEqDiff, and_f, nt_e, nt_t, nl_t, nl_f, ne_t, ne_f, and_self, or_self, or_true, true_or, or_false, false_or, if_true, if_false, and_true, true_and, and_false, false_and, not_true, not_false_iff]
  · have hp := c_placeOf (M := M) (g := 0) (h := n1) hk (by omega) (by omega) bk2
    simp (disch := omega) only [lit_0, lit_1, lit_2, lit_3, lit_4, lit_5, lit_6, lit_7, lit_8, lit_9, lit_10, lit_11, lit_12, lit_13, lit_14, lit_15, lit_16, lit_20, lit_23, lit_24, lit_31, lit_32, lit_39, lit_43, lit_45, lit_47, lit_48, lit_56, lit_57, lit_59, lit_60, lit_62, lit_63, lit_89, lit_92, lit_96, lit_97, lit_99, lit_100, lit_102, lit_103, lit_104, lit_110, lit_111, lit_115, lit_117, lit_194, lit_200, lit_644, lit_736, lit_999, lit_1000, lit_9999, lit_10000, lit_1000000000, ↓wp_mlet, ↓wp_mbp, ↓wp_ite, ↓wp_mix, ↓wp_mdiv, ↓wp_mnz, ↓wp_some, ↓wp_mbnd, ↓mlet_eq, ↓mbp_eq, ↓mbnd_eq, ↓mix_ite, ↓mdiv_ite, ↓mnz_ite, nI_add, nI_mul, nI_nat, nI_ltE, nI_leE, nI_eqE, nI_eqN, nI_Neq, nI_Nlt, nI_Nle, nI_ltN, nI_leN, ↓reduceIte, ↓Nat.reduceEqDiff, and_f, nt_e, nt_t, nl_t, nl_f, ne_t, ne_f, and_self, or_self, or_true, true_or, or_false, false_or, if_true, if_false, and_true, true_and, and_false, false_and, not_true, not_false_iff, toNat_0, Bool.false_and, Bool.true_and, Bool.and_false, Bool.and_true, Bool.false_eq_true, reduceCtorEq, Bool.true_eq_false, Bool.not_true, Bool.not_false, e1, r1, hs, hp]
    cases hq : pl α n1 with
    | none =>
      simp (disch := omega) only [lit_0, lit_1, lit_2, lit_3, lit_4, lit_5, lit_6, lit_7, lit_8, lit_9, lit_10, lit_11, lit_12, lit_13, lit_14, lit_15, lit_16, lit_20, lit_23, lit_24, lit_31, lit_32, lit_39, lit_43, lit_45, lit_47, lit_48, lit_56, lit_57, lit_59, lit_60, lit_62, lit_63, lit_89, lit_92, lit_96, lit_97, lit_99, lit_100, lit_102, lit_103, lit_104, lit_110, lit_111, lit_115, lit_117, lit_194, lit_200, lit_644, lit_736, lit_999, lit_1000, lit_9999, lit_10000, lit_1000000000, ↓wp_mlet, ↓wp_mbp, ↓wp_ite, ↓wp_mix, ↓wp_mdiv, ↓wp_mnz, ↓wp_some, ↓wp_mbnd, ↓mlet_eq, ↓mbp_eq, ↓mbnd_eq, ↓mix_ite, ↓mdiv_ite, ↓mnz_ite, nI_add, nI_mul, nI_nat, nI_ltE, nI_leE, nI_eqE, nI_eqN, nI_Neq, nI_Nlt, nI_Nle, nI_ltN, nI_leN, ↓reduceIte, ↓Nat.reduceEqDiff, and_f, nt_e, nt_t, nl_t, nl_f, ne_t, ne_f, and_self, or_self, or_true, true_or, or_false, false_or, if_true, if_false, and_true, true_and, and_false, false_and, not_true, not_false_iff, oI]
      refine CT_inl rfl fun _ => ?_
      unfold f_X9_detailOf
      simp (disch := omega) only [lit_0, lit_1, lit_2, lit_3, lit_4, lit_5, lit_6, lit_7, lit_8, lit_9, lit_10, lit_11, lit_12, lit_13, lit_14, lit_15, lit_16, lit_20, lit_23, lit_24, lit_31, lit_32, lit_39, lit_43, lit_45, lit_47, lit_48, lit_56, lit_57, lit_59, lit_60, lit_62, lit_63, lit_89, lit_92, lit_96, lit_97, lit_99, lit_100, lit_102, lit_103, lit_104, lit_110, lit_111, lit_115, lit_117, lit_194, lit_200, lit_644, lit_736, lit_999, lit_1000, lit_9999, lit_10000, lit_1000000000, ↓wp_mlet, ↓wp_mbp, ↓wp_ite, ↓wp_mix, ↓wp_mdiv, ↓wp_mnz, ↓wp_some, ↓wp_mbnd, ↓mlet_eq, ↓mbp_eq, ↓mbnd_eq, ↓mix_ite, ↓mdiv_ite, ↓mnz_ite, nI_add, nI_mul, nI_nat, nI_ltE, nI_leE, nI_eqE, nI_eqN, nI_Neq, nI_Nlt, nI_Nle, nI_ltN, nI_leN, ↓reduceIte, ↓Nat.reduceEqDiff, and_f, nt_e, nt_t, nl_t, nl_f, ne_t, ne_f, and_self, or_self, or_true, true_or, or_false, false_or, if_true, if_false, and_true, true_and, and_false, false_and, not_true, not_false_iff]
    | some k =>
      have hk9 := (pl_lt hq).1
      unfold CT
      simp (disch := omega) only [lit_0, lit_1, lit_2, lit_3, lit_4, lit_5, lit_6, lit_7, lit_8, lit_9, lit_10, lit_11, lit_12, lit_13, lit_14, lit_15, lit_16, lit_20, lit_23, lit_24, lit_31, lit_32, lit_39, lit_43, lit_45, lit_47, lit_48, lit_56, lit_57, lit_59, lit_60, lit_62, lit_63, lit_89, lit_92, lit_96, lit_97, lit_99, lit_100, lit_102, lit_103, lit_104, lit_110, lit_111, lit_115, lit_117, lit_194, lit_200, lit_644, lit_736, lit_999, lit_1000, lit_9999, lit_10000, lit_1000000000, ↓wp_mlet, ↓wp_mbp, ↓wp_ite, ↓wp_mix, ↓wp_mdiv, ↓wp_mnz, ↓wp_some, ↓wp_mbnd, ↓mlet_eq, ↓mbp_eq, ↓mbnd_eq, ↓mix_ite, ↓mdiv_ite, ↓mnz_ite, nI_add, nI_mul, nI_nat, nI_ltE, nI_leE, nI_eqE, nI_eqN, nI_Neq, nI_Nlt, nI_Nle, nI_ltN, nI_leN, ↓reduceIte, ↓Nat.reduceEqDiff, and_f, nt_e, nt_t, nl_t, nl_f, ne_t, ne_f, and_self, or_self, or_true, true_or, or_false, false_or, if_true, if_false, and_true, true_and, and_false, false_and, not_true, not_false_iff, oI, c_hide (M := M) (n := α 9) (show α 9 ≤ 8 by omega) hk9 r5]
      refine ⟨⟨?_, ?_, ?_, ?_⟩, ?_, ?_⟩
      · refine ⟨?_, ?_, ?_, ?_, fun k hk => ?_, fun k hk => ?_, fun k' hk hk9' => ?_⟩
        · simp (disch := omega) only [mup_at, up_at, fil_at, ↓reduceIte, ↓Nat.reduceEqDiff, and_f, nt_e, nt_t, nl_t, nl_f, ne_t, ne_f, and_self, or_self, or_true, true_or, or_false, false_or, if_true, if_false, and_true, true_and, and_false, false_and, not_true, not_false_iff, backSp_at, r0]
        · simp (disch := omega) only [mup_at, up_at, fil_at, ↓reduceIte, ↓Nat.reduceEqDiff, and_f, nt_e, nt_t, nl_t, nl_f, ne_t, ne_f, and_self, or_self, or_true, true_or, or_false, false_or, if_true, if_false, and_true, true_and, and_false, false_and, not_true, not_false_iff, backSp_at, r1]
        · simp (disch := omega) only [mup_at, up_at, fil_at, ↓reduceIte, ↓Nat.reduceEqDiff, and_f, nt_e, nt_t, nl_t, nl_f, ne_t, ne_f, and_self, or_self, or_true, true_or, or_false, false_or, if_true, if_false, and_true, true_and, and_false, false_and, not_true, not_false_iff, backSp_at, r3]
        · simp (disch := omega) only [mup_at, up_at, fil_at, ↓reduceIte, ↓Nat.reduceEqDiff, and_f, nt_e, nt_t, nl_t, nl_f, ne_t, ne_f, and_self, or_self, or_true, true_or, or_false, false_or, if_true, if_false, and_true, true_and, and_false, false_and, not_true, not_false_iff, backSp_at]
        · simp (disch := omega) only [mup_at, up_at, fil_at, ↓reduceIte, ↓Nat.reduceEqDiff, and_f, nt_e, nt_t, nl_t, nl_f, ne_t, ne_f, and_self, or_self, or_true, true_or, or_false, false_or, if_true, if_false, and_true, true_and, and_false, false_and, not_true, not_false_iff, backSp_at, r2 k hk]
        · simp (disch := omega) only [mup_at, up_at, fil_at, ↓reduceIte, ↓Nat.reduceEqDiff, and_f, nt_e, nt_t, nl_t, nl_f, ne_t, ne_f, and_self, or_self, or_true, true_or, or_false, false_or, if_true, if_false, and_true, true_and, and_false, false_and, not_true, not_false_iff, backSp_at, rc k hk]
        · simp (disch := omega) only [mup_at, up_at, fil_at, ↓reduceIte, ↓Nat.reduceEqDiff, and_f, nt_e, nt_t, nl_t, nl_f, ne_t, ne_f, and_self, or_self, or_true, true_or, or_false, false_or, if_true, if_false, and_true, true_and, and_false, false_and, not_true, not_false_iff, backSp_at] at hk9'
          by_cases hk' : k ≤ k'
          · simp (disch := omega) only [mup_at, up_at, fil_at, ↓reduceIte, ↓Nat.reduceEqDiff, and_f, nt_e, nt_t, nl_t, nl_f, ne_t, ne_f, and_self, or_self, or_true, true_or, or_false, false_or, if_true, if_false, and_true, true_and, and_false, false_and, not_true, not_false_iff, backSp_at, r4 (k' + 1) (by omega) (by omega)]
            rfl
          · simp (disch := omega) only [mup_at, up_at, fil_at, ↓reduceIte, ↓Nat.reduceEqDiff, and_f, nt_e, nt_t, nl_t, nl_f, ne_t, ne_f, and_self, or_self, or_true, true_or, or_false, false_or, if_true, if_false, and_true, true_and, and_false, false_and, not_true, not_false_iff, backSp_at, r4 k' hk (by omega)]
      · exact Rd.of (by funext c; simp (disch := omega) only [mup_at, up_at, fil_at, ↓reduceIte, ↓Nat.reduceEqDiff, and_f, nt_e, nt_t, nl_t, nl_f, ne_t, ne_f, and_self, or_self, or_true, true_or, or_false, false_or, if_true, if_false, and_true, true_and, and_false, false_and, not_true, not_false_iff]) (fun j hj => by simp (disch := omega) only [mup_at, up_at, fil_at, ↓reduceIte, ↓Nat.reduceEqDiff, and_f, nt_e, nt_t, nl_t, nl_f, ne_t, ne_f, and_self, or_self, or_true, true_or, or_false, false_or, if_true, if_false, and_true, true_and, and_false, false_and, not_true, not_false_iff, backSp_at]) hd
      · exact Rb.of (fun i _ _ => by funext c; simp (disch := omega) only [mup_at, up_at, fil_at, ↓reduceIte, ↓Nat.reduceEqDiff, and_f, nt_e, nt_t, nl_t, nl_f, ne_t, ne_f, and_self, or_self, or_true, true_or, or_false, false_or, if_true, if_false, and_true, true_and, and_false, false_and, not_true, not_false_iff]) (fun j hj => by simp (disch := omega) only [mup_at, up_at, fil_at, ↓reduceIte, ↓Nat.reduceEqDiff, and_f, nt_e, nt_t, nl_t, nl_f, ne_t, ne_f, and_self, or_self, or_true, true_or, or_false, false_or, if_true, if_false, and_true, true_and, and_false, false_and, not_true, not_false_iff, backSp_at]) hb
      · exact Rj.of (fun i _ _ => by funext c; simp (disch := omega) only [mup_at, up_at, fil_at, ↓reduceIte, ↓Nat.reduceEqDiff, and_f, nt_e, nt_t, nl_t, nl_f, ne_t, ne_f, and_self, or_self, or_true, true_or, or_false, false_or, if_true, if_false, and_true, true_and, and_false, false_and, not_true, not_false_iff]) (fun j hj => by simp (disch := omega) only [mup_at, up_at, fil_at, ↓reduceIte, ↓Nat.reduceEqDiff, and_f, nt_e, nt_t, nl_t, nl_f, ne_t, ne_f, and_self, or_self, or_true, true_or, or_false, false_or, if_true, if_false, and_true, true_and, and_false, false_and, not_true, not_false_iff, backSp_at]) hj
      · simp (disch := omega) only [mup_at, up_at, fil_at, ↓reduceIte, ↓Nat.reduceEqDiff, and_f, nt_e, nt_t, nl_t, nl_f, ne_t, ne_f, and_self, or_self, or_true, true_or, or_false, false_or, if_true, if_false, and_true, true_and, and_false, false_and, not_true, not_false_iff]
      · intro a ha
        rw [pm_g ha, fil_g ha, pm_g ha]
theorem m_takesL {M : Mem} {N k n : Nat} (hN : 1000 = N) (hn : n ≤ 8) (hk : k < n) (h9 : M 12 48 9 = nI (n - 1)) (kk : Mem → Option (Int32 × Mem)) : f_X12_takes_L57 N (nI k) M kk = kk (fil M 12 48 (23 + k) (23 + (n - 1)) (fun j => M 12 48 (j + 1))) := by
  have q9 : ∀ x, (fil M 12 48 (23 + k) (23 + x) (fun j => M 12 48 (j + 1))) 12 48 9 = nI (n - 1) := fun x => by
    rw [fil_at, if_neg (by omega), h9]
  have key := mloopL (F := fun n x s kk => f_X12_takes_L57 n x s kk) (c := n - 1) k (fun x => fil M 12 48 (23 + k) (23 + x) (fun j => M 12 48 (j + 1))) (fun m x kk hkx hx => by
    have q4 : (fil M 12 48 (23 + k) (23 + x) (fun j => M 12 48 (j + 1))) 12 48 (23 + x + 1) = M 12 48 (23 + x + 1) := by
      rw [fil_at, if_neg (by omega)]
    rw [f_X12_takes_L57.eq_2]
    simp (disch := omega) only [lit_0, lit_1, lit_2, lit_3, lit_4, lit_5, lit_6, lit_7, lit_8, lit_9, lit_10, lit_11, lit_12, lit_13, lit_14, lit_15, lit_16, lit_20, lit_23, lit_24, lit_31, lit_32, lit_39, lit_43, lit_45, lit_47, lit_48, lit_56, lit_57, lit_59, lit_60, lit_62, lit_63, lit_89, lit_92, lit_96, lit_97, lit_99, lit_100, lit_102, lit_103, lit_104, lit_110, lit_111, lit_115, lit_117, lit_194, lit_200, lit_644, lit_736, lit_999, lit_1000, lit_9999, lit_10000, lit_1000000000, ↓wp_mlet, ↓wp_mbp, ↓wp_ite, ↓wp_mix, ↓wp_mdiv, ↓wp_mnz, ↓wp_some, ↓wp_mbnd, ↓mlet_eq, ↓mbp_eq, ↓mbnd_eq, ↓mix_ite, ↓mdiv_ite, ↓mnz_ite, nI_add, nI_mul, nI_nat, nI_ltE, nI_leE, nI_eqE, nI_eqN, nI_Neq, nI_Nlt, nI_Nle, nI_ltN, nI_leN, ↓reduceIte, ↓Nat.reduceEqDiff, and_f, nt_e, nt_t, nl_t, nl_f, ne_t, ne_f, and_self, or_self, or_true, true_or, or_false, false_or, if_true, if_false, and_true, true_and, and_false, false_and, not_true, not_false_iff, q9, q4]
    rw [fil_s (by omega) rfl]
    rfl) (fun m kk => by
    rw [f_X12_takes_L57.eq_2]
    simp (disch := omega) only [lit_0, lit_1, lit_2, lit_3, lit_4, lit_5, lit_6, lit_7, lit_8, lit_9, lit_10, lit_11, lit_12, lit_13, lit_14, lit_15, lit_16, lit_20, lit_23, lit_24, lit_31, lit_32, lit_39, lit_43, lit_45, lit_47, lit_48, lit_56, lit_57, lit_59, lit_60, lit_62, lit_63, lit_89, lit_92, lit_96, lit_97, lit_99, lit_100, lit_102, lit_103, lit_104, lit_110, lit_111, lit_115, lit_117, lit_194, lit_200, lit_644, lit_736, lit_999, lit_1000, lit_9999, lit_10000, lit_1000000000, ↓wp_mlet, ↓wp_mbp, ↓wp_ite, ↓wp_mix, ↓wp_mdiv, ↓wp_mnz, ↓wp_some, ↓wp_mbnd, ↓mlet_eq, ↓mbp_eq, ↓mbnd_eq, ↓mix_ite, ↓mdiv_ite, ↓mnz_ite, nI_add, nI_mul, nI_nat, nI_ltE, nI_leE, nI_eqE, nI_eqN, nI_Neq, nI_Nlt, nI_Nle, nI_ltN, nI_leN, ↓reduceIte, ↓Nat.reduceEqDiff, and_f, nt_e, nt_t, nl_t, nl_f, ne_t, ne_f, and_self, or_self, or_true, true_or, or_false, false_or, if_true, if_false, and_true, true_and, and_false, false_and, not_true, not_false_iff, q9])
  have := key (n - 1 - k) N k kk (Nat.le_refl _) (by omega) (by omega)
  rw [fil_0] at this
  exact this
theorem m_takes {M : Mem} {α : Sp} {H : Nat} (hS : M 12 48 = enc α) (hi : Inv H α) (a1 : Int32) : MT M 1 (sBack α a1) (f_X12_takes a1 M) := by
  obtain ⟨⟨b0, b1, b2, b3, b4, b5, b6, b7, b8, b9, b10, b11, b14⟩, -, -, bs, bk, -, -, -, -, -⟩ := hi
  have bk2 : ∀ k, k < α 9 → α (23 + k) < 2147483648 := fun k h => by have := bk k h; omega
  unfold sBack f_X12_takes
  generalize hN : (1000 : Nat) = N
  simp only [lit_0, lit_1, lit_2, lit_3, lit_4, lit_5, lit_6, lit_7, lit_8, lit_9, lit_10, lit_11, lit_12, lit_13, lit_14, lit_15, lit_16, lit_20, lit_23, lit_24, lit_31, lit_32, lit_39, lit_43, lit_45, lit_47, lit_48, lit_56, lit_57, lit_59, lit_60, lit_62, lit_63, lit_89, lit_92, lit_96, lit_97, lit_99, lit_100, lit_102, lit_103, lit_104, lit_110, lit_111, lit_115, lit_117, lit_194, lit_200, lit_644, lit_736, lit_999, lit_1000, lit_9999, lit_10000, lit_1000000000, m_isHolder hS (show α 0 < 2147483648 by omega), mbp_eq, toNat_0]
  rcases idx_c a1 (α 0) (by omega) with ⟨n1, h1, rfl, e1⟩ | ⟨e1, -⟩
  case inr =>
    simp (disch := omega) only [lit_0, lit_1, lit_2, lit_3, lit_4, lit_5, lit_6, lit_7, lit_8, lit_9, lit_10, lit_11, lit_12, lit_13, lit_14, lit_15, lit_16, lit_20, lit_23, lit_24, lit_31, lit_32, lit_39, lit_43, lit_45, lit_47, lit_48, lit_56, lit_57, lit_59, lit_60, lit_62, lit_63, lit_89, lit_92, lit_96, lit_97, lit_99, lit_100, lit_102, lit_103, lit_104, lit_110, lit_111, lit_115, lit_117, lit_194, lit_200, lit_644, lit_736, lit_999, lit_1000, lit_9999, lit_10000, lit_1000000000, ↓wp_mlet, ↓wp_mbp, ↓wp_ite, ↓wp_mix, ↓wp_mdiv, ↓wp_mnz, ↓wp_some, ↓wp_mbnd, ↓mlet_eq, ↓mbp_eq, ↓mbnd_eq, ↓mix_ite, ↓mdiv_ite, ↓mnz_ite, nI_add, nI_mul, nI_nat, nI_ltE, nI_leE, nI_eqE, nI_eqN, nI_Neq, nI_Nlt, nI_Nle, nI_ltN, nI_leN, ↓reduceIte, ↓Nat.reduceEqDiff, and_f, nt_e, nt_t, nl_t, nl_f, ne_t, ne_f, and_self, or_self, or_true, true_or, or_false, false_or, if_true, if_false, and_true, true_and, and_false, false_and, not_true, not_false_iff, toNat_0, Bool.false_and, Bool.true_and, Bool.and_false, Bool.and_true, Bool.false_eq_true, reduceCtorEq, Bool.true_eq_false, Bool.not_true, Bool.not_false, e1]
    exact MT_20
  by_cases hs : α 1 = 0
  · simp (disch := omega) only [lit_0, lit_1, lit_2, lit_3, lit_4, lit_5, lit_6, lit_7, lit_8, lit_9, lit_10, lit_11, lit_12, lit_13, lit_14, lit_15, lit_16, lit_20, lit_23, lit_24, lit_31, lit_32, lit_39, lit_43, lit_45, lit_47, lit_48, lit_56, lit_57, lit_59, lit_60, lit_62, lit_63, lit_89, lit_92, lit_96, lit_97, lit_99, lit_100, lit_102, lit_103, lit_104, lit_110, lit_111, lit_115, lit_117, lit_194, lit_200, lit_644, lit_736, lit_999, lit_1000, lit_9999, lit_10000, lit_1000000000, ↓wp_mlet, ↓wp_mbp, ↓wp_ite, ↓wp_mix, ↓wp_mdiv, ↓wp_mnz, ↓wp_some, ↓wp_mbnd, ↓mlet_eq, ↓mbp_eq, ↓mbnd_eq, ↓mix_ite, ↓mdiv_ite, ↓mnz_ite, nI_add, nI_mul, nI_nat, nI_ltE, nI_leE, nI_eqE, nI_eqN, nI_Neq, nI_Nlt, nI_Nle, nI_ltN, nI_leN, ↓reduceIte, ↓Nat.reduceEqDiff, and_f, nt_e, nt_t, nl_t, nl_f, ne_t, ne_f, and_self, or_self, or_true, true_or, or_false, false_or, if_true, if_false, and_true, true_and, and_false, false_and, not_true, not_false_iff, toNat_0, Bool.false_and, Bool.true_and, Bool.and_false, Bool.and_true, Bool.false_eq_true, reduceCtorEq, Bool.true_eq_false, Bool.not_true, Bool.not_false, e1, ms_n hS, hs]
    exact MT_refused (by decide)
  · have hp := m_placeOf (M := M) (h := n1) hS (by omega) (by omega) bk2
    simp (disch := omega) only [lit_0, lit_1, lit_2, lit_3, lit_4, lit_5, lit_6, lit_7, lit_8, lit_9, lit_10, lit_11, lit_12, lit_13, lit_14, lit_15, lit_16, lit_20, lit_23, lit_24, lit_31, lit_32, lit_39, lit_43, lit_45, lit_47, lit_48, lit_56, lit_57, lit_59, lit_60, lit_62, lit_63, lit_89, lit_92, lit_96, lit_97, lit_99, lit_100, lit_102, lit_103, lit_104, lit_110, lit_111, lit_115, lit_117, lit_194, lit_200, lit_644, lit_736, lit_999, lit_1000, lit_9999, lit_10000, lit_1000000000, ↓wp_mlet, ↓wp_mbp, ↓wp_ite, ↓wp_mix, ↓wp_mdiv, ↓wp_mnz, ↓wp_some, ↓wp_mbnd, ↓mlet_eq, ↓mbp_eq, ↓mbnd_eq, ↓mix_ite, ↓mdiv_ite, ↓mnz_ite, nI_add, nI_mul, nI_nat, nI_ltE, nI_leE, nI_eqE, nI_eqN, nI_Neq, nI_Nlt, nI_Nle, nI_ltN, nI_leN, ↓reduceIte, ↓Nat.reduceEqDiff, and_f, nt_e, nt_t, nl_t, nl_f, ne_t, ne_f, and_self, or_self, or_true, true_or, or_false, false_or, if_true, if_false, and_true, true_and, and_false, false_and, not_true, not_false_iff, toNat_0, Bool.false_and, Bool.true_and, Bool.and_false, Bool.and_true, Bool.false_eq_true, reduceCtorEq, Bool.true_eq_false, Bool.not_true, Bool.not_false, e1, ms_n hS, hs, hp]
    cases hq : pl α n1 with
    | none =>
      simp (disch := omega) only [lit_0, lit_1, lit_2, lit_3, lit_4, lit_5, lit_6, lit_7, lit_8, lit_9, lit_10, lit_11, lit_12, lit_13, lit_14, lit_15, lit_16, lit_20, lit_23, lit_24, lit_31, lit_32, lit_39, lit_43, lit_45, lit_47, lit_48, lit_56, lit_57, lit_59, lit_60, lit_62, lit_63, lit_89, lit_92, lit_96, lit_97, lit_99, lit_100, lit_102, lit_103, lit_104, lit_110, lit_111, lit_115, lit_117, lit_194, lit_200, lit_644, lit_736, lit_999, lit_1000, lit_9999, lit_10000, lit_1000000000, ↓wp_mlet, ↓wp_mbp, ↓wp_ite, ↓wp_mix, ↓wp_mdiv, ↓wp_mnz, ↓wp_some, ↓wp_mbnd, ↓mlet_eq, ↓mbp_eq, ↓mbnd_eq, ↓mix_ite, ↓mdiv_ite, ↓mnz_ite, nI_add, nI_mul, nI_nat, nI_ltE, nI_leE, nI_eqE, nI_eqN, nI_Neq, nI_Nlt, nI_Nle, nI_ltN, nI_leN, ↓reduceIte, ↓Nat.reduceEqDiff, and_f, nt_e, nt_t, nl_t, nl_f, ne_t, ne_f, and_self, or_self, or_true, true_or, or_false, false_or, if_true, if_false, and_true, true_and, and_false, false_and, not_true, not_false_iff, oI]
      exact MT_refused (by decide)
    | some k =>
      have hk9 := (pl_lt hq).1
      unfold MT
      simp (disch := omega) only [lit_0, lit_1, lit_2, lit_3, lit_4, lit_5, lit_6, lit_7, lit_8, lit_9, lit_10, lit_11, lit_12, lit_13, lit_14, lit_15, lit_16, lit_20, lit_23, lit_24, lit_31, lit_32, lit_39, lit_43, lit_45, lit_47, lit_48, lit_56, lit_57, lit_59, lit_60, lit_62, lit_63, lit_89, lit_92, lit_96, lit_97, lit_99, lit_100, lit_102, lit_103, lit_104, lit_110, lit_111, lit_115, lit_117, lit_194, lit_200, lit_644, lit_736, lit_999, lit_1000, lit_9999, lit_10000, lit_1000000000, ↓wp_mlet, ↓wp_mbp, ↓wp_ite, ↓wp_mix, ↓wp_mdiv, ↓wp_mnz, ↓wp_some, ↓wp_mbnd, ↓mlet_eq, ↓mbp_eq, ↓mbnd_eq, ↓mix_ite, ↓mdiv_ite, ↓mnz_ite, nI_add, nI_mul, nI_nat, nI_ltE, nI_leE, nI_eqE, nI_eqN, nI_Neq, nI_Nlt, nI_Nle, nI_ltN, nI_leN, ↓reduceIte, ↓Nat.reduceEqDiff, and_f, nt_e, nt_t, nl_t, nl_f, ne_t, ne_f, and_self, or_self, or_true, true_or, or_false, false_or, if_true, if_false, and_true, true_and, and_false, false_and, not_true, not_false_iff, oI, nI_subE]
      rw [m_takesL (n := α 9) hN (by omega) hk9]
      case h9 => simp (disch := omega) only [mup_at, up_at, fil_at, ↓reduceIte, ↓Nat.reduceEqDiff, and_f, nt_e, nt_t, nl_t, nl_f, ne_t, ne_f, and_self, or_self, or_true, true_or, or_false, false_or, if_true, if_false, and_true, true_and, and_false, false_and, not_true, not_false_iff]
      unfold f_X12_done
      simp (disch := omega) only [lit_0, lit_1, lit_2, lit_3, lit_4, lit_5, lit_6, lit_7, lit_8, lit_9, lit_10, lit_11, lit_12, lit_13, lit_14, lit_15, lit_16, lit_20, lit_23, lit_24, lit_31, lit_32, lit_39, lit_43, lit_45, lit_47, lit_48, lit_56, lit_57, lit_59, lit_60, lit_62, lit_63, lit_89, lit_92, lit_96, lit_97, lit_99, lit_100, lit_102, lit_103, lit_104, lit_110, lit_111, lit_115, lit_117, lit_194, lit_200, lit_644, lit_736, lit_999, lit_1000, lit_9999, lit_10000, lit_1000000000, ↓wp_mlet, ↓wp_mbp, ↓wp_ite, ↓wp_mix, ↓wp_mdiv, ↓wp_mnz, ↓wp_some, ↓wp_mbnd, ↓mlet_eq, ↓mbp_eq, ↓mbnd_eq, ↓mix_ite, ↓mdiv_ite, ↓mnz_ite, nI_add, nI_mul, nI_nat, nI_ltE, nI_leE, nI_eqE, nI_eqN, nI_Neq, nI_Nlt, nI_Nle, nI_ltN, nI_leN, ↓reduceIte, ↓Nat.reduceEqDiff, and_f, nt_e, nt_t, nl_t, nl_f, ne_t, ne_f, and_self, or_self, or_true, true_or, or_false, false_or, if_true, if_false, and_true, true_and, and_false, false_and, not_true, not_false_iff, mup_at, up_at, fil_at, ↓reduceIte, ↓Nat.reduceEqDiff, and_f, nt_e, nt_t, nl_t, nl_f, ne_t, ne_f, and_self, or_self, or_true, true_or, or_false, false_or, if_true, if_false, and_true, true_and, and_false, false_and, not_true, not_false_iff]
      refine ⟨?_, ?_, ?_⟩
      · refine enc_ext (α := α) fun j => ?_
        by_cases q : j = 9
        · subst q
          exact Or.inr ⟨by decide, by simp (disch := omega) only [mup_at, up_at, fil_at, ↓reduceIte, ↓Nat.reduceEqDiff, and_f, nt_e, nt_t, nl_t, nl_f, ne_t, ne_f, and_self, or_self, or_true, true_or, or_false, false_or, if_true, if_false, and_true, true_and, and_false, false_and, not_true, not_false_iff, backSp_at]⟩
        · by_cases q2 : 23 + k ≤ j ∧ j < 23 + (α 9 - 1)
          · exact Or.inr ⟨by omega, by simp (disch := omega) only [mup_at, up_at, fil_at, ↓reduceIte, ↓Nat.reduceEqDiff, and_f, nt_e, nt_t, nl_t, nl_f, ne_t, ne_f, and_self, or_self, or_true, true_or, or_false, false_or, if_true, if_false, and_true, true_and, and_false, false_and, not_true, not_false_iff, backSp_at, ms_n hS]⟩
          · by_cases q3 : j = 23 + (α 9 - 1)
            · exact Or.inr ⟨by omega, by simp (disch := omega) only [mup_at, up_at, fil_at, ↓reduceIte, ↓Nat.reduceEqDiff, and_f, nt_e, nt_t, nl_t, nl_f, ne_t, ne_f, and_self, or_self, or_true, true_or, or_false, false_or, if_true, if_false, and_true, true_and, and_false, false_and, not_true, not_false_iff, backSp_at]⟩
            · exact Or.inl ⟨by simp (disch := omega) only [mup_at, up_at, fil_at, ↓reduceIte, ↓Nat.reduceEqDiff, and_f, nt_e, nt_t, nl_t, nl_f, ne_t, ne_f, and_self, or_self, or_true, true_or, or_false, false_or, if_true, if_false, and_true, true_and, and_false, false_and, not_true, not_false_iff, backSp_at], by simp (disch := omega) only [mup_at, up_at, fil_at, ↓reduceIte, ↓Nat.reduceEqDiff, and_f, nt_e, nt_t, nl_t, nl_f, ne_t, ne_f, and_self, or_self, or_true, true_or, or_false, false_or, if_true, if_false, and_true, true_and, and_false, false_and, not_true, not_false_iff, hS]⟩
      · intro k hk
        simp (disch := omega) only [↓reduceIte, ↓Nat.reduceEqDiff, and_f, nt_e, nt_t, nl_t, nl_f, ne_t, ne_f, and_self, or_self, or_true, true_or, or_false, false_or, if_true, if_false, and_true, true_and, and_false, false_and, not_true, not_false_iff]
      · intro a b hab
        funext c
        simp (disch := omega) only [mup_at, up_at, fil_at, ↓reduceIte, ↓Nat.reduceEqDiff, and_f, nt_e, nt_t, nl_t, nl_f, ne_t, ne_f, and_self, or_self, or_true, true_or, or_false, false_or, if_true, if_false, and_true, true_and, and_false, false_and, not_true, not_false_iff]
/-! guards -/
def guardSp (α : Sp) (z w p : Nat) : Sp := up (up (up (up α (47 + 3 * α 10) z) (48 + 3 * α 10) w) (49 + 3 * α 10) p) 10 (α 10 + 1)
def sGuard (α : Sp) (a1 a2 a3 : Int32) : Ex :=
  if idx a1 8 && rng1 a3 4 then
    if α 10 = 3 then .inl (1, 3) else .inr (α 10, guardSp α a1.toNatClampNeg (2 - a2.toNatClampNeg) a3.toNatClampNeg)
  else .inl (21, 0)
theorem c_guard {M : Mem} {α : Sp} {H b : Nat} (hR : RC (M 0) α) (hi : Inv H α) (a1 a3 : Int32) (hb2 : b < 2) : CT M 3 (sGuard α a1 (nI b) a3) (f_X9_tryGuard 0 a1 (nI b) a3 M) := by
  obtain ⟨hk, hd, hb, hj⟩ := hR
  obtain ⟨r0, r3, r4, r5, r6, r7, r8⟩ := id hb
  obtain ⟨⟨b0, b1, b2, b3, b4, b5, b6, b7, b8, b9, b10, b11, b14⟩, -, -, bs, bk, -, -, -, -, -⟩ := hi
  unfold sGuard f_X9_tryGuard
  simp only [c_hasZone, mbp_eq]
  rcases idx_c a1 8 (by omega) with ⟨n1, h1, rfl, e1⟩ | ⟨e1, -⟩
  case inr =>
    simp (disch := omega) only [lit_0, lit_1, lit_2, lit_3, lit_4, lit_5, lit_6, lit_7, lit_8, lit_9, lit_10, lit_11, lit_12, lit_13, lit_14, lit_15, lit_16, lit_20, lit_23, lit_24, lit_31, lit_32, lit_39, lit_43, lit_45, lit_47, lit_48, lit_56, lit_57, lit_59, lit_60, lit_62, lit_63, lit_89, lit_92, lit_96, lit_97, lit_99, lit_100, lit_102, lit_103, lit_104, lit_110, lit_111, lit_115, lit_117, lit_194, lit_200, lit_644, lit_736, lit_999, lit_1000, lit_9999, lit_10000, lit_1000000000, ↓wp_mlet, ↓wp_mbp, ↓wp_ite, ↓wp_mix, ↓wp_mdiv, ↓wp_mnz, ↓wp_some, ↓wp_mbnd, ↓mlet_eq, ↓mbp_eq, ↓mbnd_eq, ↓mix_ite, ↓mdiv_ite, ↓mnz_ite, nI_add, nI_mul, nI_nat, nI_ltE, nI_leE, nI_eqE, nI_eqN, nI_Neq, nI_Nlt, nI_Nle, nI_ltN, nI_leN, ↓reduceIte, ↓Nat.reduceEqDiff, and_f, nt_e, nt_t, nl_t, nl_f, ne_t, ne_f, and_self, or_self, or_true, true_or, or_false, false_or, if_true, if_false, and_true, true_and, and_false, false_and, not_true, not_false_iff, toNat_0, Bool.false_and, Bool.true_and, Bool.and_false, Bool.and_true, Bool.false_eq_true, reduceCtorEq, Bool.true_eq_false, Bool.not_true, Bool.not_false, e1]
    exact CT_21
  rcases rng1_c a3 4 with ⟨n4, h4, h4', rfl, e4⟩ | ⟨e4, h4⟩
  case inr =>
    simp (disch := omega) only [lit_0, lit_1, lit_2, lit_3, lit_4, lit_5, lit_6, lit_7, lit_8, lit_9, lit_10, lit_11, lit_12, lit_13, lit_14, lit_15, lit_16, lit_20, lit_23, lit_24, lit_31, lit_32, lit_39, lit_43, lit_45, lit_47, lit_48, lit_56, lit_57, lit_59, lit_60, lit_62, lit_63, lit_89, lit_92, lit_96, lit_97, lit_99, lit_100, lit_102, lit_103, lit_104, lit_110, lit_111, lit_115, lit_117, lit_194, lit_200, lit_644, lit_736, lit_999, lit_1000, lit_9999, lit_10000, lit_1000000000, ↓wp_mlet, ↓wp_mbp, ↓wp_ite, ↓wp_mix, ↓wp_mdiv, ↓wp_mnz, ↓wp_some, ↓wp_mbnd, ↓mlet_eq, ↓mbp_eq, ↓mbnd_eq, ↓mix_ite, ↓mdiv_ite, ↓mnz_ite, nI_add, nI_mul, nI_nat, nI_ltE, nI_leE, nI_eqE, nI_eqN, nI_Neq, nI_Nlt, nI_Nle, nI_ltN, nI_leN, ↓reduceIte, ↓Nat.reduceEqDiff, and_f, nt_e, nt_t, nl_t, nl_f, ne_t, ne_f, and_self, or_self, or_true, true_or, or_false, false_or, if_true, if_false, and_true, true_and, and_false, false_and, not_true, not_false_iff, toNat_0, Bool.false_and, Bool.true_and, Bool.and_false, Bool.and_true, Bool.false_eq_true, reduceCtorEq, Bool.true_eq_false, Bool.not_true, Bool.not_false, e1, e4]
    rcases h4 with h4 | ⟨j, hj, h4, rfl⟩
    · simp (disch := omega) only [lit_0, lit_1, lit_2, lit_3, lit_4, lit_5, lit_6, lit_7, lit_8, lit_9, lit_10, lit_11, lit_12, lit_13, lit_14, lit_15, lit_16, lit_20, lit_23, lit_24, lit_31, lit_32, lit_39, lit_43, lit_45, lit_47, lit_48, lit_56, lit_57, lit_59, lit_60, lit_62, lit_63, lit_89, lit_92, lit_96, lit_97, lit_99, lit_100, lit_102, lit_103, lit_104, lit_110, lit_111, lit_115, lit_117, lit_194, lit_200, lit_644, lit_736, lit_999, lit_1000, lit_9999, lit_10000, lit_1000000000, ↓wp_mlet, ↓wp_mbp, ↓wp_ite, ↓wp_mix, ↓wp_mdiv, ↓wp_mnz, ↓wp_some, ↓wp_mbnd, ↓mlet_eq, ↓mbp_eq, ↓mbnd_eq, ↓mix_ite, ↓mdiv_ite, ↓mnz_ite, nI_add, nI_mul, nI_nat, nI_ltE, nI_leE, nI_eqE, nI_eqN, nI_Neq, nI_Nlt, nI_Nle, nI_ltN, nI_leN, ↓reduceIte, ↓Nat.reduceEqDiff, and_f, nt_e, nt_t, nl_t, nl_f, ne_t, ne_f, and_self, or_self, or_true, true_or, or_false, false_or, if_true, if_false, and_true, true_and, and_false, false_and, not_true, not_false_iff, (neg_of h4 (n := 1) (by decide)).2.1]
      exact CT_21
    · rcases h4 with h4 | h4
      · simp (disch := omega) only [lit_0, lit_1, lit_2, lit_3, lit_4, lit_5, lit_6, lit_7, lit_8, lit_9, lit_10, lit_11, lit_12, lit_13, lit_14, lit_15, lit_16, lit_20, lit_23, lit_24, lit_31, lit_32, lit_39, lit_43, lit_45, lit_47, lit_48, lit_56, lit_57, lit_59, lit_60, lit_62, lit_63, lit_89, lit_92, lit_96, lit_97, lit_99, lit_100, lit_102, lit_103, lit_104, lit_110, lit_111, lit_115, lit_117, lit_194, lit_200, lit_644, lit_736, lit_999, lit_1000, lit_9999, lit_10000, lit_1000000000, ↓wp_mlet, ↓wp_mbp, ↓wp_ite, ↓wp_mix, ↓wp_mdiv, ↓wp_mnz, ↓wp_some, ↓wp_mbnd, ↓mlet_eq, ↓mbp_eq, ↓mbnd_eq, ↓mix_ite, ↓mdiv_ite, ↓mnz_ite, nI_add, nI_mul, nI_nat, nI_ltE, nI_leE, nI_eqE, nI_eqN, nI_Neq, nI_Nlt, nI_Nle, nI_ltN, nI_leN, ↓reduceIte, ↓Nat.reduceEqDiff, and_f, nt_e, nt_t, nl_t, nl_f, ne_t, ne_f, and_self, or_self, or_true, true_or, or_false, false_or, if_true, if_false, and_true, true_and, and_false, false_and, not_true, not_false_iff]
        exact CT_21
      · simp (disch := omega) only [lit_0, lit_1, lit_2, lit_3, lit_4, lit_5, lit_6, lit_7, lit_8, lit_9, lit_10, lit_11, lit_12, lit_13, lit_14, lit_15, lit_16, lit_20, lit_23, lit_24, lit_31, lit_32, lit_39, lit_43, lit_45, lit_47, lit_48, lit_56, lit_57, lit_59, lit_60, lit_62, lit_63, lit_89, lit_92, lit_96, lit_97, lit_99, lit_100, lit_102, lit_103, lit_104, lit_110, lit_111, lit_115, lit_117, lit_194, lit_200, lit_644, lit_736, lit_999, lit_1000, lit_9999, lit_10000, lit_1000000000, ↓wp_mlet, ↓wp_mbp, ↓wp_ite, ↓wp_mix, ↓wp_mdiv, ↓wp_mnz, ↓wp_some, ↓wp_mbnd, ↓mlet_eq, ↓mbp_eq, ↓mbnd_eq, ↓mix_ite, ↓mdiv_ite, ↓mnz_ite, nI_add, nI_mul, nI_nat, nI_ltE, nI_leE, nI_eqE, nI_eqN, nI_Neq, nI_Nlt, nI_Nle, nI_ltN, nI_leN, ↓reduceIte, ↓Nat.reduceEqDiff, and_f, nt_e, nt_t, nl_t, nl_f, ne_t, ne_f, and_self, or_self, or_true, true_or, or_false, false_or, if_true, if_false, and_true, true_and, and_false, false_and, not_true, not_false_iff]
        exact CT_21
  simp (disch := omega) only [lit_0, lit_1, lit_2, lit_3, lit_4, lit_5, lit_6, lit_7, lit_8, lit_9, lit_10, lit_11, lit_12, lit_13, lit_14, lit_15, lit_16, lit_20, lit_23, lit_24, lit_31, lit_32, lit_39, lit_43, lit_45, lit_47, lit_48, lit_56, lit_57, lit_59, lit_60, lit_62, lit_63, lit_89, lit_92, lit_96, lit_97, lit_99, lit_100, lit_102, lit_103, lit_104, lit_110, lit_111, lit_115, lit_117, lit_194, lit_200, lit_644, lit_736, lit_999, lit_1000, lit_9999, lit_10000, lit_1000000000, ↓wp_mlet, ↓wp_mbp, ↓wp_ite, ↓wp_mix, ↓wp_mdiv, ↓wp_mnz, ↓wp_some, ↓wp_mbnd, ↓mlet_eq, ↓mbp_eq, ↓mbnd_eq, ↓mix_ite, ↓mdiv_ite, ↓mnz_ite, nI_add, nI_mul, nI_nat, nI_ltE, nI_leE, nI_eqE, nI_eqN, nI_Neq, nI_Nlt, nI_Nle, nI_ltN, nI_leN, ↓reduceIte, ↓Nat.reduceEqDiff, and_f, nt_e, nt_t, nl_t, nl_f, ne_t, ne_f, and_self, or_self, or_true, true_or, or_false, false_or, if_true, if_false, and_true, true_and, and_false, false_and, not_true, not_false_iff, toNat_0, Bool.false_and, Bool.true_and, Bool.and_false, Bool.and_true, Bool.false_eq_true, reduceCtorEq, Bool.true_eq_false, Bool.not_true, Bool.not_false, e1, e4, r4]
  by_cases h3 : α 10 = 3
  · simp (disch := omega) only [lit_0, lit_1, lit_2, lit_3, lit_4, lit_5, lit_6, lit_7, lit_8, lit_9, lit_10, lit_11, lit_12, lit_13, lit_14, lit_15, lit_16, lit_20, lit_23, lit_24, lit_31, lit_32, lit_39, lit_43, lit_45, lit_47, lit_48, lit_56, lit_57, lit_59, lit_60, lit_62, lit_63, lit_89, lit_92, lit_96, lit_97, lit_99, lit_100, lit_102, lit_103, lit_104, lit_110, lit_111, lit_115, lit_117, lit_194, lit_200, lit_644, lit_736, lit_999, lit_1000, lit_9999, lit_10000, lit_1000000000, ↓wp_mlet, ↓wp_mbp, ↓wp_ite, ↓wp_mix, ↓wp_mdiv, ↓wp_mnz, ↓wp_some, ↓wp_mbnd, ↓mlet_eq, ↓mbp_eq, ↓mbnd_eq, ↓mix_ite, ↓mdiv_ite, ↓mnz_ite, nI_add, nI_mul, nI_nat, nI_ltE, nI_leE, nI_eqE, nI_eqN, nI_Neq, nI_Nlt, nI_Nle, nI_ltN, nI_leN, ↓reduceIte, ↓Nat.reduceEqDiff, and_f, nt_e, nt_t, nl_t, nl_f, ne_t, ne_f, and_self, or_self, or_true, true_or, or_false, false_or, if_true, if_false, and_true, true_and, and_false, false_and, not_true, not_false_iff, h3]
    refine CT_inl rfl fun _ => ?_
    unfold f_X9_detailOf
    simp (disch := omega) only [lit_0, lit_1, lit_2, lit_3, lit_4, lit_5, lit_6, lit_7, lit_8, lit_9, lit_10, lit_11, lit_12, lit_13, lit_14, lit_15, lit_16, lit_20, lit_23, lit_24, lit_31, lit_32, lit_39, lit_43, lit_45, lit_47, lit_48, lit_56, lit_57, lit_59, lit_60, lit_62, lit_63, lit_89, lit_92, lit_96, lit_97, lit_99, lit_100, lit_102, lit_103, lit_104, lit_110, lit_111, lit_115, lit_117, lit_194, lit_200, lit_644, lit_736, lit_999, lit_1000, lit_9999, lit_10000, lit_1000000000, ↓wp_mlet, ↓wp_mbp, ↓wp_ite, ↓wp_mix, ↓wp_mdiv, ↓wp_mnz, ↓wp_some, ↓wp_mbnd, ↓mlet_eq, ↓mbp_eq, ↓mbnd_eq, ↓mix_ite, ↓mdiv_ite, ↓mnz_ite, nI_add, nI_mul, nI_nat, nI_ltE, nI_leE, nI_eqE, nI_eqN, nI_Neq, nI_Nlt, nI_Nle, nI_ltN, nI_leN, ↓reduceIte, ↓Nat.reduceEqDiff, and_f, nt_e, nt_t, nl_t, nl_f, ne_t, ne_f, and_self, or_self, or_true, true_or, or_false, false_or, if_true, if_false, and_true, true_and, and_false, false_and, not_true, not_false_iff]
  · unfold CT
    simp (disch := omega) only [lit_0, lit_1, lit_2, lit_3, lit_4, lit_5, lit_6, lit_7, lit_8, lit_9, lit_10, lit_11, lit_12, lit_13, lit_14, lit_15, lit_16, lit_20, lit_23, lit_24, lit_31, lit_32, lit_39, lit_43, lit_45, lit_47, lit_48, lit_56, lit_57, lit_59, lit_60, lit_62, lit_63, lit_89, lit_92, lit_96, lit_97, lit_99, lit_100, lit_102, lit_103, lit_104, lit_110, lit_111, lit_115, lit_117, lit_194, lit_200, lit_644, lit_736, lit_999, lit_1000, lit_9999, lit_10000, lit_1000000000, ↓wp_mlet, ↓wp_mbp, ↓wp_ite, ↓wp_mix, ↓wp_mdiv, ↓wp_mnz, ↓wp_some, ↓wp_mbnd, ↓mlet_eq, ↓mbp_eq, ↓mbnd_eq, ↓mix_ite, ↓mdiv_ite, ↓mnz_ite, nI_add, nI_mul, nI_nat, nI_ltE, nI_leE, nI_eqE, nI_eqN, nI_Neq, nI_Nlt, nI_Nle, nI_ltN, nI_leN, ↓reduceIte, ↓Nat.reduceEqDiff, and_f, nt_e, nt_t, nl_t, nl_f, ne_t, ne_f, and_self, or_self, or_true, true_or, or_false, false_or, if_true, if_false, and_true, true_and, and_false, false_and, not_true, not_false_iff, f_X1_placeGuard, r4, vnar_bool]
    refine ⟨⟨?_, ?_, ?_, ?_⟩, ?_, ?_⟩
    · exact Rk.of (fun i _ _ => by funext c; simp (disch := omega) only [mup_at, up_at, fil_at, ↓reduceIte, ↓Nat.reduceEqDiff, and_f, nt_e, nt_t, nl_t, nl_f, ne_t, ne_f, and_self, or_self, or_true, true_or, or_false, false_or, if_true, if_false, and_true, true_and, and_false, false_and, not_true, not_false_iff]) (fun j hj => by simp (disch := omega) only [mup_at, up_at, fil_at, ↓reduceIte, ↓Nat.reduceEqDiff, and_f, nt_e, nt_t, nl_t, nl_f, ne_t, ne_f, and_self, or_self, or_true, true_or, or_false, false_or, if_true, if_false, and_true, true_and, and_false, false_and, not_true, not_false_iff, guardSp]) hk
    · exact Rd.of (by funext c; simp (disch := omega) only [mup_at, up_at, fil_at, ↓reduceIte, ↓Nat.reduceEqDiff, and_f, nt_e, nt_t, nl_t, nl_f, ne_t, ne_f, and_self, or_self, or_true, true_or, or_false, false_or, if_true, if_false, and_true, true_and, and_false, false_and, not_true, not_false_iff]) (fun j hj => by simp (disch := omega) only [mup_at, up_at, fil_at, ↓reduceIte, ↓Nat.reduceEqDiff, and_f, nt_e, nt_t, nl_t, nl_f, ne_t, ne_f, and_self, or_self, or_true, true_or, or_false, false_or, if_true, if_false, and_true, true_and, and_false, false_and, not_true, not_false_iff, guardSp]) hd
    · refine ⟨?_, ?_, ?_, fun k hk => ?_, fun k hk => ?_, fun k hk hk9 => ?_, fun k hk => ?_⟩
      · simp (disch := omega) only [mup_at, up_at, fil_at, ↓reduceIte, ↓Nat.reduceEqDiff, and_f, nt_e, nt_t, nl_t, nl_f, ne_t, ne_f, and_self, or_self, or_true, true_or, or_false, false_or, if_true, if_false, and_true, true_and, and_false, false_and, not_true, not_false_iff, guardSp, r0]
      · simp (disch := omega) only [mup_at, up_at, fil_at, ↓reduceIte, ↓Nat.reduceEqDiff, and_f, nt_e, nt_t, nl_t, nl_f, ne_t, ne_f, and_self, or_self, or_true, true_or, or_false, false_or, if_true, if_false, and_true, true_and, and_false, false_and, not_true, not_false_iff, guardSp, r3]
      · simp (disch := omega) only [mup_at, up_at, fil_at, ↓reduceIte, ↓Nat.reduceEqDiff, and_f, nt_e, nt_t, nl_t, nl_f, ne_t, ne_f, and_self, or_self, or_true, true_or, or_false, false_or, if_true, if_false, and_true, true_and, and_false, false_and, not_true, not_false_iff, guardSp, r4, nI_add]
      · simp (disch := omega) only [mup_at, up_at, fil_at, ↓reduceIte, ↓Nat.reduceEqDiff, and_f, nt_e, nt_t, nl_t, nl_f, ne_t, ne_f, and_self, or_self, or_true, true_or, or_false, false_or, if_true, if_false, and_true, true_and, and_false, false_and, not_true, not_false_iff, guardSp, r5 k hk]
      · simp (disch := omega) only [mup_at, up_at, fil_at, ↓reduceIte, ↓Nat.reduceEqDiff, and_f, nt_e, nt_t, nl_t, nl_f, ne_t, ne_f, and_self, or_self, or_true, true_or, or_false, false_or, if_true, if_false, and_true, true_and, and_false, false_and, not_true, not_false_iff, guardSp, r6 k hk]
      · simp (disch := omega) only [mup_at, up_at, fil_at, ↓reduceIte, ↓Nat.reduceEqDiff, and_f, nt_e, nt_t, nl_t, nl_f, ne_t, ne_f, and_self, or_self, or_true, true_or, or_false, false_or, if_true, if_false, and_true, true_and, and_false, false_and, not_true, not_false_iff, guardSp] at hk9
        by_cases hk' : k = α 10
        · subst hk'
          refine ⟨?_, ?_, ?_⟩
          · simp (disch := omega) only [mup_at, up_at, fil_at, ↓reduceIte, ↓Nat.reduceEqDiff, and_f, nt_e, nt_t, nl_t, nl_f, ne_t, ne_f, and_self, or_self, or_true, true_or, or_false, false_or, if_true, if_false, and_true, true_and, and_false, false_and, not_true, not_false_iff, guardSp]
          · simp (disch := omega) only [mup_at, up_at, fil_at, ↓reduceIte, ↓Nat.reduceEqDiff, and_f, nt_e, nt_t, nl_t, nl_f, ne_t, ne_f, and_self, or_self, or_true, true_or, or_false, false_or, if_true, if_false, and_true, true_and, and_false, false_and, not_true, not_false_iff, guardSp, show 2 - (2 - b) = b by omega]
          · simp (disch := omega) only [mup_at, up_at, fil_at, ↓reduceIte, ↓Nat.reduceEqDiff, and_f, nt_e, nt_t, nl_t, nl_f, ne_t, ne_f, and_self, or_self, or_true, true_or, or_false, false_or, if_true, if_false, and_true, true_and, and_false, false_and, not_true, not_false_iff, guardSp]
        · have q := r7 k hk (by omega)
          refine ⟨?_, ?_, ?_⟩
          · simp (disch := omega) only [mup_at, up_at, fil_at, ↓reduceIte, ↓Nat.reduceEqDiff, and_f, nt_e, nt_t, nl_t, nl_f, ne_t, ne_f, and_self, or_self, or_true, true_or, or_false, false_or, if_true, if_false, and_true, true_and, and_false, false_and, not_true, not_false_iff, guardSp, q.1]
          · simp (disch := omega) only [mup_at, up_at, fil_at, ↓reduceIte, ↓Nat.reduceEqDiff, and_f, nt_e, nt_t, nl_t, nl_f, ne_t, ne_f, and_self, or_self, or_true, true_or, or_false, false_or, if_true, if_false, and_true, true_and, and_false, false_and, not_true, not_false_iff, guardSp, q.2.1]
          · simp (disch := omega) only [mup_at, up_at, fil_at, ↓reduceIte, ↓Nat.reduceEqDiff, and_f, nt_e, nt_t, nl_t, nl_f, ne_t, ne_f, and_self, or_self, or_true, true_or, or_false, false_or, if_true, if_false, and_true, true_and, and_false, false_and, not_true, not_false_iff, guardSp, q.2.2]
      · by_cases hk' : k = α 10
        · subst hk'
          exact ⟨b, hb2, by simp (disch := omega) only [mup_at, up_at, fil_at, ↓reduceIte, ↓Nat.reduceEqDiff, and_f, nt_e, nt_t, nl_t, nl_f, ne_t, ne_f, and_self, or_self, or_true, true_or, or_false, false_or, if_true, if_false, and_true, true_and, and_false, false_and, not_true, not_false_iff]⟩
        · obtain ⟨c, c1, c2⟩ := r8 k hk
          exact ⟨c, c1, by simp (disch := omega) only [mup_at, up_at, fil_at, ↓reduceIte, ↓Nat.reduceEqDiff, and_f, nt_e, nt_t, nl_t, nl_f, ne_t, ne_f, and_self, or_self, or_true, true_or, or_false, false_or, if_true, if_false, and_true, true_and, and_false, false_and, not_true, not_false_iff, c2]⟩
    · exact Rj.of (fun i _ _ => by funext c; simp (disch := omega) only [mup_at, up_at, fil_at, ↓reduceIte, ↓Nat.reduceEqDiff, and_f, nt_e, nt_t, nl_t, nl_f, ne_t, ne_f, and_self, or_self, or_true, true_or, or_false, false_or, if_true, if_false, and_true, true_and, and_false, false_and, not_true, not_false_iff]) (fun j hj => by simp (disch := omega) only [mup_at, up_at, fil_at, ↓reduceIte, ↓Nat.reduceEqDiff, and_f, nt_e, nt_t, nl_t, nl_f, ne_t, ne_f, and_self, or_self, or_true, true_or, or_false, false_or, if_true, if_false, and_true, true_and, and_false, false_and, not_true, not_false_iff, guardSp]) hj
    · simp (disch := omega) only [mup_at, up_at, fil_at, ↓reduceIte, ↓Nat.reduceEqDiff, and_f, nt_e, nt_t, nl_t, nl_f, ne_t, ne_f, and_self, or_self, or_true, true_or, or_false, false_or, if_true, if_false, and_true, true_and, and_false, false_and, not_true, not_false_iff]
    · intro a ha
      rw [pm_g ha, pm_g ha, pm_g ha, pm_g ha, pm_g ha]
theorem m_guards {M : Mem} {α : Sp} {H b : Nat} (hS : M 12 48 = enc α) (hi : Inv H α) (a1 a3 : Int32) (hb2 : b < 2) : MT M 1 (sGuard α a1 (nI b) a3) (f_X12_guards a1 (nI b) a3 M) := by
  obtain ⟨⟨b0, b1, b2, b3, b4, b5, b6, b7, b8, b9, b10, b11, b14⟩, -, -, bs, bk, -, -, -, -, -⟩ := hi
  unfold sGuard f_X12_guards
  simp only [lit_0, lit_1, lit_2, lit_3, lit_4, lit_5, lit_6, lit_7, lit_8, lit_9, lit_10, lit_11, lit_12, lit_13, lit_14, lit_15, lit_16, lit_20, lit_23, lit_24, lit_31, lit_32, lit_39, lit_43, lit_45, lit_47, lit_48, lit_56, lit_57, lit_59, lit_60, lit_62, lit_63, lit_89, lit_92, lit_96, lit_97, lit_99, lit_100, lit_102, lit_103, lit_104, lit_110, lit_111, lit_115, lit_117, lit_194, lit_200, lit_644, lit_736, lit_999, lit_1000, lit_9999, lit_10000, lit_1000000000]
  rw [rng_1 a3 4 (by decide)]
  simp only [m_isZone, mbp_eq, toNat_0]
  rcases idx_c a1 8 (by omega) with ⟨n1, h1, rfl, e1⟩ | ⟨e1, -⟩
  case inr =>
    simp (disch := omega) only [lit_0, lit_1, lit_2, lit_3, lit_4, lit_5, lit_6, lit_7, lit_8, lit_9, lit_10, lit_11, lit_12, lit_13, lit_14, lit_15, lit_16, lit_20, lit_23, lit_24, lit_31, lit_32, lit_39, lit_43, lit_45, lit_47, lit_48, lit_56, lit_57, lit_59, lit_60, lit_62, lit_63, lit_89, lit_92, lit_96, lit_97, lit_99, lit_100, lit_102, lit_103, lit_104, lit_110, lit_111, lit_115, lit_117, lit_194, lit_200, lit_644, lit_736, lit_999, lit_1000, lit_9999, lit_10000, lit_1000000000, ↓wp_mlet, ↓wp_mbp, ↓wp_ite, ↓wp_mix, ↓wp_mdiv, ↓wp_mnz, ↓wp_some, ↓wp_mbnd, ↓mlet_eq, ↓mbp_eq, ↓mbnd_eq, ↓mix_ite, ↓mdiv_ite, ↓mnz_ite, nI_add, nI_mul, nI_nat, nI_ltE, nI_leE, nI_eqE, nI_eqN, nI_Neq, nI_Nlt, nI_Nle, nI_ltN, nI_leN, ↓reduceIte, ↓Nat.reduceEqDiff, and_f, nt_e, nt_t, nl_t, nl_f, ne_t, ne_f, and_self, or_self, or_true, true_or, or_false, false_or, if_true, if_false, and_true, true_and, and_false, false_and, not_true, not_false_iff, toNat_0, Bool.false_and, Bool.true_and, Bool.and_false, Bool.and_true, Bool.false_eq_true, reduceCtorEq, Bool.true_eq_false, Bool.not_true, Bool.not_false, e1]
    exact MT_21
  rcases rng1_c a3 4 with ⟨n4, h4, h4', rfl, e4⟩ | ⟨e4, h4⟩
  case inr =>
    simp (disch := omega) only [lit_0, lit_1, lit_2, lit_3, lit_4, lit_5, lit_6, lit_7, lit_8, lit_9, lit_10, lit_11, lit_12, lit_13, lit_14, lit_15, lit_16, lit_20, lit_23, lit_24, lit_31, lit_32, lit_39, lit_43, lit_45, lit_47, lit_48, lit_56, lit_57, lit_59, lit_60, lit_62, lit_63, lit_89, lit_92, lit_96, lit_97, lit_99, lit_100, lit_102, lit_103, lit_104, lit_110, lit_111, lit_115, lit_117, lit_194, lit_200, lit_644, lit_736, lit_999, lit_1000, lit_9999, lit_10000, lit_1000000000, ↓wp_mlet, ↓wp_mbp, ↓wp_ite, ↓wp_mix, ↓wp_mdiv, ↓wp_mnz, ↓wp_some, ↓wp_mbnd, ↓mlet_eq, ↓mbp_eq, ↓mbnd_eq, ↓mix_ite, ↓mdiv_ite, ↓mnz_ite, nI_add, nI_mul, nI_nat, nI_ltE, nI_leE, nI_eqE, nI_eqN, nI_Neq, nI_Nlt, nI_Nle, nI_ltN, nI_leN, ↓reduceIte, ↓Nat.reduceEqDiff, and_f, nt_e, nt_t, nl_t, nl_f, ne_t, ne_f, and_self, or_self, or_true, true_or, or_false, false_or, if_true, if_false, and_true, true_and, and_false, false_and, not_true, not_false_iff, toNat_0, Bool.false_and, Bool.true_and, Bool.and_false, Bool.and_true, Bool.false_eq_true, reduceCtorEq, Bool.true_eq_false, Bool.not_true, Bool.not_false, e1, e4]
    exact MT_21
  simp (disch := omega) only [lit_0, lit_1, lit_2, lit_3, lit_4, lit_5, lit_6, lit_7, lit_8, lit_9, lit_10, lit_11, lit_12, lit_13, lit_14, lit_15, lit_16, lit_20, lit_23, lit_24, lit_31, lit_32, lit_39, lit_43, lit_45, lit_47, lit_48, lit_56, lit_57, lit_59, lit_60, lit_62, lit_63, lit_89, lit_92, lit_96, lit_97, lit_99, lit_100, lit_102, lit_103, lit_104, lit_110, lit_111, lit_115, lit_117, lit_194, lit_200, lit_644, lit_736, lit_999, lit_1000, lit_9999, lit_10000, lit_1000000000, ↓wp_mlet, ↓wp_mbp, ↓wp_ite, ↓wp_mix, ↓wp_mdiv, ↓wp_mnz, ↓wp_some, ↓wp_mbnd, ↓mlet_eq, ↓mbp_eq, ↓mbnd_eq, ↓mix_ite, ↓mdiv_ite, ↓mnz_ite, nI_add, nI_mul, nI_nat, nI_ltE, nI_leE, nI_eqE, nI_eqN, nI_Neq, nI_Nlt, nI_Nle, nI_ltN, nI_leN, ↓reduceIte, ↓Nat.reduceEqDiff, and_f, nt_e, nt_t, nl_t, nl_f, ne_t, ne_f, and_self, or_self, or_true, true_or, or_false, false_or, if_true, if_false, and_true, true_and, and_false, false_and, not_true, not_false_iff, toNat_0, Bool.false_and, Bool.true_and, Bool.and_false, Bool.and_true, Bool.false_eq_true, reduceCtorEq, Bool.true_eq_false, Bool.not_true, Bool.not_false, e1, e4, ms_n hS]
  by_cases h3 : α 10 = 3
  · simp (disch := omega) only [lit_0, lit_1, lit_2, lit_3, lit_4, lit_5, lit_6, lit_7, lit_8, lit_9, lit_10, lit_11, lit_12, lit_13, lit_14, lit_15, lit_16, lit_20, lit_23, lit_24, lit_31, lit_32, lit_39, lit_43, lit_45, lit_47, lit_48, lit_56, lit_57, lit_59, lit_60, lit_62, lit_63, lit_89, lit_92, lit_96, lit_97, lit_99, lit_100, lit_102, lit_103, lit_104, lit_110, lit_111, lit_115, lit_117, lit_194, lit_200, lit_644, lit_736, lit_999, lit_1000, lit_9999, lit_10000, lit_1000000000, ↓wp_mlet, ↓wp_mbp, ↓wp_ite, ↓wp_mix, ↓wp_mdiv, ↓wp_mnz, ↓wp_some, ↓wp_mbnd, ↓mlet_eq, ↓mbp_eq, ↓mbnd_eq, ↓mix_ite, ↓mdiv_ite, ↓mnz_ite, nI_add, nI_mul, nI_nat, nI_ltE, nI_leE, nI_eqE, nI_eqN, nI_Neq, nI_Nlt, nI_Nle, nI_ltN, nI_leN, ↓reduceIte, ↓Nat.reduceEqDiff, and_f, nt_e, nt_t, nl_t, nl_f, ne_t, ne_f, and_self, or_self, or_true, true_or, or_false, false_or, if_true, if_false, and_true, true_and, and_false, false_and, not_true, not_false_iff, h3]
    exact MT_refused (by decide)
  · unfold MT f_X12_done
    rcases (show b = 0 ∨ b = 1 by omega) with rfl | rfl
    · simp (disch := omega) only [lit_0, lit_1, lit_2, lit_3, lit_4, lit_5, lit_6, lit_7, lit_8, lit_9, lit_10, lit_11, lit_12, lit_13, lit_14, lit_15, lit_16, lit_20, lit_23, lit_24, lit_31, lit_32, lit_39, lit_43, lit_45, lit_47, lit_48, lit_56, lit_57, lit_59, lit_60, lit_62, lit_63, lit_89, lit_92, lit_96, lit_97, lit_99, lit_100, lit_102, lit_103, lit_104, lit_110, lit_111, lit_115, lit_117, lit_194, lit_200, lit_644, lit_736, lit_999, lit_1000, lit_9999, lit_10000, lit_1000000000, ↓wp_mlet, ↓wp_mbp, ↓wp_ite, ↓wp_mix, ↓wp_mdiv, ↓wp_mnz, ↓wp_some, ↓wp_mbnd, ↓mlet_eq, ↓mbp_eq, ↓mbnd_eq, ↓mix_ite, ↓mdiv_ite, ↓mnz_ite, nI_add, nI_mul, nI_nat, nI_ltE, nI_leE, nI_eqE, nI_eqN, nI_Neq, nI_Nlt, nI_Nle, nI_ltN, nI_leN, ↓reduceIte, ↓Nat.reduceEqDiff, and_f, nt_e, nt_t, nl_t, nl_f, ne_t, ne_f, and_self, or_self, or_true, true_or, or_false, false_or, if_true, if_false, and_true, true_and, and_false, false_and, not_true, not_false_iff, mup_at, up_at, fil_at, ↓reduceIte, ↓Nat.reduceEqDiff, and_f, nt_e, nt_t, nl_t, nl_f, ne_t, ne_f, and_self, or_self, or_true, true_or, or_false, false_or, if_true, if_false, and_true, true_and, and_false, false_and, not_true, not_false_iff]
      refine ⟨?_, ?_, ?_⟩
      · rw [pm_ne (by omega), pm_self, pm_self, pm_self, pm_self, hS, enc_up (by omega), enc_upw (v := 2) (by omega) (x := -nI 1) rfl, enc_up (by omega), enc_up (by omega), guardSp, show 47 + 3 * α 10 + 0 = 47 + 3 * α 10 by omega, show 47 + 3 * α 10 + 1 = 48 + 3 * α 10 by omega, show 47 + 3 * α 10 + 2 = 49 + 3 * α 10 by omega]
      · intro k hk
        simp (disch := omega) only [↓reduceIte, ↓Nat.reduceEqDiff, and_f, nt_e, nt_t, nl_t, nl_f, ne_t, ne_f, and_self, or_self, or_true, true_or, or_false, false_or, if_true, if_false, and_true, true_and, and_false, false_and, not_true, not_false_iff]
      · intro a b hab
        rw [pm_ne (by omega), pm_ne (by omega), pm_ne (by omega), pm_ne (by omega), pm_ne (by omega)]
    · simp (disch := omega) only [lit_0, lit_1, lit_2, lit_3, lit_4, lit_5, lit_6, lit_7, lit_8, lit_9, lit_10, lit_11, lit_12, lit_13, lit_14, lit_15, lit_16, lit_20, lit_23, lit_24, lit_31, lit_32, lit_39, lit_43, lit_45, lit_47, lit_48, lit_56, lit_57, lit_59, lit_60, lit_62, lit_63, lit_89, lit_92, lit_96, lit_97, lit_99, lit_100, lit_102, lit_103, lit_104, lit_110, lit_111, lit_115, lit_117, lit_194, lit_200, lit_644, lit_736, lit_999, lit_1000, lit_9999, lit_10000, lit_1000000000, ↓wp_mlet, ↓wp_mbp, ↓wp_ite, ↓wp_mix, ↓wp_mdiv, ↓wp_mnz, ↓wp_some, ↓wp_mbnd, ↓mlet_eq, ↓mbp_eq, ↓mbnd_eq, ↓mix_ite, ↓mdiv_ite, ↓mnz_ite, nI_add, nI_mul, nI_nat, nI_ltE, nI_leE, nI_eqE, nI_eqN, nI_Neq, nI_Nlt, nI_Nle, nI_ltN, nI_leN, ↓reduceIte, ↓Nat.reduceEqDiff, and_f, nt_e, nt_t, nl_t, nl_f, ne_t, ne_f, and_self, or_self, or_true, true_or, or_false, false_or, if_true, if_false, and_true, true_and, and_false, false_and, not_true, not_false_iff, mup_at, up_at, fil_at, ↓reduceIte, ↓Nat.reduceEqDiff, and_f, nt_e, nt_t, nl_t, nl_f, ne_t, ne_f, and_self, or_self, or_true, true_or, or_false, false_or, if_true, if_false, and_true, true_and, and_false, false_and, not_true, not_false_iff]
      refine ⟨?_, ?_, ?_⟩
      · rw [pm_ne (by omega), pm_self, pm_self, pm_self, pm_self, hS, enc_up (by omega), enc_upw (v := 1) (by omega) (x := nI 1) rfl, enc_up (by omega), enc_up (by omega), guardSp, show 47 + 3 * α 10 + 0 = 47 + 3 * α 10 by omega, show 47 + 3 * α 10 + 1 = 48 + 3 * α 10 by omega, show 47 + 3 * α 10 + 2 = 49 + 3 * α 10 by omega]
      · intro k hk
        simp (disch := omega) only [↓reduceIte, ↓Nat.reduceEqDiff, and_f, nt_e, nt_t, nl_t, nl_f, ne_t, ne_f, and_self, or_self, or_true, true_or, or_false, false_or, if_true, if_false, and_true, true_and, and_false, false_and, not_true, not_false_iff]
      · intro a b hab
        rw [pm_ne (by omega), pm_ne (by omega), pm_ne (by omega), pm_ne (by omega), pm_ne (by omega)]
def sTurn (α : Sp) (a1 : Int32) : Ex :=
  if idx a1 (α 10) then .inr (α (48 + 3 * a1.toNatClampNeg) - 1, up α (48 + 3 * a1.toNatClampNeg) (3 - α (48 + 3 * a1.toNatClampNeg))) else .inl (20, 0)
theorem c_turn {M : Mem} {α : Sp} {H : Nat} (hR : RC (M 0) α) (hi : Inv H α) (a1 : Int32) : CT M 0 (sTurn α a1) (f_X9_tryTurn 0 a1 M) := by
  obtain ⟨hk, hd, hb, hj⟩ := hR
  obtain ⟨r0, r3, r4, r5, r6, r7, r8⟩ := id hb
  obtain ⟨⟨b0, b1, b2, b3, b4, b5, b6, b7, b8, b9, b10, b11, b14⟩, -, -, bs, bk, -, -, -, bg, -⟩ := hi
  unfold sTurn f_X9_tryTurn
  simp only [c_hasGuard r4 (show α 10 < 2147483648 by omega), mbp_eq]
  rcases idx_c a1 (α 10) (by omega) with ⟨n1, h1, rfl, e1⟩ | ⟨e1, -⟩
  case inr =>
    simp (disch := omega) only [lit_0, lit_1, lit_2, lit_3, lit_4, lit_5, lit_6, lit_7, lit_8, lit_9, lit_10, lit_11, lit_12, lit_13, lit_14, lit_15, lit_16, lit_20, lit_23, lit_24, lit_31, lit_32, lit_39, lit_43, lit_45, lit_47, lit_48, lit_56, lit_57, lit_59, lit_60, lit_62, lit_63, lit_89, lit_92, lit_96, lit_97, lit_99, lit_100, lit_102, lit_103, lit_104, lit_110, lit_111, lit_115, lit_117, lit_194, lit_200, lit_644, lit_736, lit_999, lit_1000, lit_9999, lit_10000, lit_1000000000, ↓wp_mlet, ↓wp_mbp, ↓wp_ite, ↓wp_mix, ↓wp_mdiv, ↓wp_mnz, ↓wp_some, ↓wp_mbnd, ↓mlet_eq, ↓mbp_eq, ↓mbnd_eq, ↓mix_ite, ↓mdiv_ite, ↓mnz_ite, nI_add, nI_mul, nI_nat, nI_ltE, nI_leE, nI_eqE, nI_eqN, nI_Neq, nI_Nlt, nI_Nle, nI_ltN, nI_leN, ↓reduceIte, ↓Nat.reduceEqDiff, and_f, nt_e, nt_t, nl_t, nl_f, ne_t, ne_f, and_self, or_self, or_true, true_or, or_false, false_or, if_true, if_false, and_true, true_and, and_false, false_and, not_true, not_false_iff, toNat_0, Bool.false_and, Bool.true_and, Bool.and_false, Bool.and_true, Bool.false_eq_true, reduceCtorEq, Bool.true_eq_false, Bool.not_true, Bool.not_false, e1]
    exact CT_20
  obtain ⟨g1, g2, g3, g4, g5⟩ := bg n1 h1
  obtain ⟨q1, q2, q3⟩ := r7 n1 (by omega) h1
  simp (disch := omega) only [lit_0, lit_1, lit_2, lit_3, lit_4, lit_5, lit_6, lit_7, lit_8, lit_9, lit_10, lit_11, lit_12, lit_13, lit_14, lit_15, lit_16, lit_20, lit_23, lit_24, lit_31, lit_32, lit_39, lit_43, lit_45, lit_47, lit_48, lit_56, lit_57, lit_59, lit_60, lit_62, lit_63, lit_89, lit_92, lit_96, lit_97, lit_99, lit_100, lit_102, lit_103, lit_104, lit_110, lit_111, lit_115, lit_117, lit_194, lit_200, lit_644, lit_736, lit_999, lit_1000, lit_9999, lit_10000, lit_1000000000, ↓wp_mlet, ↓wp_mbp, ↓wp_ite, ↓wp_mix, ↓wp_mdiv, ↓wp_mnz, ↓wp_some, ↓wp_mbnd, ↓mlet_eq, ↓mbp_eq, ↓mbnd_eq, ↓mix_ite, ↓mdiv_ite, ↓mnz_ite, nI_add, nI_mul, nI_nat, nI_ltE, nI_leE, nI_eqE, nI_eqN, nI_Neq, nI_Nlt, nI_Nle, nI_ltN, nI_leN, ↓reduceIte, ↓Nat.reduceEqDiff, and_f, nt_e, nt_t, nl_t, nl_f, ne_t, ne_f, and_self, or_self, or_true, true_or, or_false, false_or, if_true, if_false, and_true, true_and, and_false, false_and, not_true, not_false_iff, toNat_0, Bool.false_and, Bool.true_and, Bool.and_false, Bool.and_true, Bool.false_eq_true, reduceCtorEq, Bool.true_eq_false, Bool.not_true, Bool.not_false, e1, q2]
  unfold CT
  have fin : ∀ (v : Nat), v < 2 → v = α (48 + 3 * n1) - 1 → (wp (some (nI 0, mup (mup M 0 10 n1 (nI v)) 0 0 4 (nI v))) fun r M1 => r = nI 0 ∧ RC (M1 0) (up α (48 + 3 * n1) (3 - α (48 + 3 * n1))) ∧ M1 0 0 4 = nI (α (48 + 3 * n1) - 1) ∧ ∀ a, a ≠ 0 → M1 a = M a) := by
    intro v hv hw
    rw [wp_some]
    refine ⟨rfl, ⟨?_, ?_, ?_, ?_⟩, ?_, ?_⟩
    · exact Rk.of (fun i _ _ => by funext c; simp (disch := omega) only [mup_at, up_at, fil_at, ↓reduceIte, ↓Nat.reduceEqDiff, and_f, nt_e, nt_t, nl_t, nl_f, ne_t, ne_f, and_self, or_self, or_true, true_or, or_false, false_or, if_true, if_false, and_true, true_and, and_false, false_and, not_true, not_false_iff]) (fun j hj => by simp (disch := omega) only [mup_at, up_at, fil_at, ↓reduceIte, ↓Nat.reduceEqDiff, and_f, nt_e, nt_t, nl_t, nl_f, ne_t, ne_f, and_self, or_self, or_true, true_or, or_false, false_or, if_true, if_false, and_true, true_and, and_false, false_and, not_true, not_false_iff]) hk
    · exact Rd.of (by funext c; simp (disch := omega) only [mup_at, up_at, fil_at, ↓reduceIte, ↓Nat.reduceEqDiff, and_f, nt_e, nt_t, nl_t, nl_f, ne_t, ne_f, and_self, or_self, or_true, true_or, or_false, false_or, if_true, if_false, and_true, true_and, and_false, false_and, not_true, not_false_iff]) (fun j hj => by simp (disch := omega) only [mup_at, up_at, fil_at, ↓reduceIte, ↓Nat.reduceEqDiff, and_f, nt_e, nt_t, nl_t, nl_f, ne_t, ne_f, and_self, or_self, or_true, true_or, or_false, false_or, if_true, if_false, and_true, true_and, and_false, false_and, not_true, not_false_iff]) hd
    · refine ⟨?_, ?_, ?_, fun k hk => ?_, fun k hk => ?_, fun k hk hk9 => ?_, fun k hk => ?_⟩
      · simp (disch := omega) only [mup_at, up_at, fil_at, ↓reduceIte, ↓Nat.reduceEqDiff, and_f, nt_e, nt_t, nl_t, nl_f, ne_t, ne_f, and_self, or_self, or_true, true_or, or_false, false_or, if_true, if_false, and_true, true_and, and_false, false_and, not_true, not_false_iff, r0]
      · simp (disch := omega) only [mup_at, up_at, fil_at, ↓reduceIte, ↓Nat.reduceEqDiff, and_f, nt_e, nt_t, nl_t, nl_f, ne_t, ne_f, and_self, or_self, or_true, true_or, or_false, false_or, if_true, if_false, and_true, true_and, and_false, false_and, not_true, not_false_iff, r3]
      · simp (disch := omega) only [mup_at, up_at, fil_at, ↓reduceIte, ↓Nat.reduceEqDiff, and_f, nt_e, nt_t, nl_t, nl_f, ne_t, ne_f, and_self, or_self, or_true, true_or, or_false, false_or, if_true, if_false, and_true, true_and, and_false, false_and, not_true, not_false_iff, r4]
      · simp (disch := omega) only [mup_at, up_at, fil_at, ↓reduceIte, ↓Nat.reduceEqDiff, and_f, nt_e, nt_t, nl_t, nl_f, ne_t, ne_f, and_self, or_self, or_true, true_or, or_false, false_or, if_true, if_false, and_true, true_and, and_false, false_and, not_true, not_false_iff, r5 k hk]
      · simp (disch := omega) only [mup_at, up_at, fil_at, ↓reduceIte, ↓Nat.reduceEqDiff, and_f, nt_e, nt_t, nl_t, nl_f, ne_t, ne_f, and_self, or_self, or_true, true_or, or_false, false_or, if_true, if_false, and_true, true_and, and_false, false_and, not_true, not_false_iff, r6 k hk]
      · simp (disch := omega) only [mup_at, up_at, fil_at, ↓reduceIte, ↓Nat.reduceEqDiff, and_f, nt_e, nt_t, nl_t, nl_f, ne_t, ne_f, and_self, or_self, or_true, true_or, or_false, false_or, if_true, if_false, and_true, true_and, and_false, false_and, not_true, not_false_iff] at hk9
        by_cases hk' : k = n1
        · subst hk'
          refine ⟨?_, ?_, ?_⟩
          · simp (disch := omega) only [mup_at, up_at, fil_at, ↓reduceIte, ↓Nat.reduceEqDiff, and_f, nt_e, nt_t, nl_t, nl_f, ne_t, ne_f, and_self, or_self, or_true, true_or, or_false, false_or, if_true, if_false, and_true, true_and, and_false, false_and, not_true, not_false_iff, q1]
          · simp (disch := omega) only [mup_at, up_at, fil_at, ↓reduceIte, ↓Nat.reduceEqDiff, and_f, nt_e, nt_t, nl_t, nl_f, ne_t, ne_f, and_self, or_self, or_true, true_or, or_false, false_or, if_true, if_false, and_true, true_and, and_false, false_and, not_true, not_false_iff]
            congr 1
            omega
          · simp (disch := omega) only [mup_at, up_at, fil_at, ↓reduceIte, ↓Nat.reduceEqDiff, and_f, nt_e, nt_t, nl_t, nl_f, ne_t, ne_f, and_self, or_self, or_true, true_or, or_false, false_or, if_true, if_false, and_true, true_and, and_false, false_and, not_true, not_false_iff, q3]
        · have q := r7 k hk (by omega)
          refine ⟨?_, ?_, ?_⟩
          · simp (disch := omega) only [mup_at, up_at, fil_at, ↓reduceIte, ↓Nat.reduceEqDiff, and_f, nt_e, nt_t, nl_t, nl_f, ne_t, ne_f, and_self, or_self, or_true, true_or, or_false, false_or, if_true, if_false, and_true, true_and, and_false, false_and, not_true, not_false_iff, q.1]
          · simp (disch := omega) only [mup_at, up_at, fil_at, ↓reduceIte, ↓Nat.reduceEqDiff, and_f, nt_e, nt_t, nl_t, nl_f, ne_t, ne_f, and_self, or_self, or_true, true_or, or_false, false_or, if_true, if_false, and_true, true_and, and_false, false_and, not_true, not_false_iff, q.2.1]
          · simp (disch := omega) only [mup_at, up_at, fil_at, ↓reduceIte, ↓Nat.reduceEqDiff, and_f, nt_e, nt_t, nl_t, nl_f, ne_t, ne_f, and_self, or_self, or_true, true_or, or_false, false_or, if_true, if_false, and_true, true_and, and_false, false_and, not_true, not_false_iff, q.2.2]
      · by_cases hk' : k = n1
        · subst hk'
          exact ⟨v, hv, by simp (disch := omega) only [mup_at, up_at, fil_at, ↓reduceIte, ↓Nat.reduceEqDiff, and_f, nt_e, nt_t, nl_t, nl_f, ne_t, ne_f, and_self, or_self, or_true, true_or, or_false, false_or, if_true, if_false, and_true, true_and, and_false, false_and, not_true, not_false_iff]⟩
        · obtain ⟨c, c1, c2⟩ := r8 k hk
          exact ⟨c, c1, by simp (disch := omega) only [mup_at, up_at, fil_at, ↓reduceIte, ↓Nat.reduceEqDiff, and_f, nt_e, nt_t, nl_t, nl_f, ne_t, ne_f, and_self, or_self, or_true, true_or, or_false, false_or, if_true, if_false, and_true, true_and, and_false, false_and, not_true, not_false_iff, c2]⟩
    · exact Rj.of (fun i _ _ => by funext c; simp (disch := omega) only [mup_at, up_at, fil_at, ↓reduceIte, ↓Nat.reduceEqDiff, and_f, nt_e, nt_t, nl_t, nl_f, ne_t, ne_f, and_self, or_self, or_true, true_or, or_false, false_or, if_true, if_false, and_true, true_and, and_false, false_and, not_true, not_false_iff]) (fun j hj => by simp (disch := omega) only [mup_at, up_at, fil_at, ↓reduceIte, ↓Nat.reduceEqDiff, and_f, nt_e, nt_t, nl_t, nl_f, ne_t, ne_f, and_self, or_self, or_true, true_or, or_false, false_or, if_true, if_false, and_true, true_and, and_false, false_and, not_true, not_false_iff]) hj
    · simp (disch := omega) only [mup_at, up_at, fil_at, ↓reduceIte, ↓Nat.reduceEqDiff, and_f, nt_e, nt_t, nl_t, nl_f, ne_t, ne_f, and_self, or_self, or_true, true_or, or_false, false_or, if_true, if_false, and_true, true_and, and_false, false_and, not_true, not_false_iff, hw]
    · intro a ha
      rw [pm_g ha, pm_g ha]
  by_cases hw : α (48 + 3 * n1) = 1
  · simp (disch := omega) only [lit_0, lit_1, lit_2, lit_3, lit_4, lit_5, lit_6, lit_7, lit_8, lit_9, lit_10, lit_11, lit_12, lit_13, lit_14, lit_15, lit_16, lit_20, lit_23, lit_24, lit_31, lit_32, lit_39, lit_43, lit_45, lit_47, lit_48, lit_56, lit_57, lit_59, lit_60, lit_62, lit_63, lit_89, lit_92, lit_96, lit_97, lit_99, lit_100, lit_102, lit_103, lit_104, lit_110, lit_111, lit_115, lit_117, lit_194, lit_200, lit_644, lit_736, lit_999, lit_1000, lit_9999, lit_10000, lit_1000000000, ↓wp_mlet, ↓wp_mbp, ↓wp_ite, ↓wp_mix, ↓wp_mdiv, ↓wp_mnz, ↓wp_some, ↓wp_mbnd, ↓mlet_eq, ↓mbp_eq, ↓mbnd_eq, ↓mix_ite, ↓mdiv_ite, ↓mnz_ite, nI_add, nI_mul, nI_nat, nI_ltE, nI_leE, nI_eqE, nI_eqN, nI_Neq, nI_Nlt, nI_Nle, nI_ltN, nI_leN, ↓reduceIte, ↓Nat.reduceEqDiff, and_f, nt_e, nt_t, nl_t, nl_f, ne_t, ne_f, and_self, or_self, or_true, true_or, or_false, false_or, if_true, if_false, and_true, true_and, and_false, false_and, not_true, not_false_iff, mup_at, up_at, fil_at, ↓reduceIte, ↓Nat.reduceEqDiff, and_f, nt_e, nt_t, nl_t, nl_f, ne_t, ne_f, and_self, or_self, or_true, true_or, or_false, false_or, if_true, if_false, and_true, true_and, and_false, false_and, not_true, not_false_iff, vnar_bool]
    have := fin 0 (by decide) (by omega)
    rw [wp_some] at this
    exact ⟨this.2.1, this.2.2.2⟩
  · simp (disch := omega) only [lit_0, lit_1, lit_2, lit_3, lit_4, lit_5, lit_6, lit_7, lit_8, lit_9, lit_10, lit_11, lit_12, lit_13, lit_14, lit_15, lit_16, lit_20, lit_23, lit_24, lit_31, lit_32, lit_39, lit_43, lit_45, lit_47, lit_48, lit_56, lit_57, lit_59, lit_60, lit_62, lit_63, lit_89, lit_92, lit_96, lit_97, lit_99, lit_100, lit_102, lit_103, lit_104, lit_110, lit_111, lit_115, lit_117, lit_194, lit_200, lit_644, lit_736, lit_999, lit_1000, lit_9999, lit_10000, lit_1000000000, ↓wp_mlet, ↓wp_mbp, ↓wp_ite, ↓wp_mix, ↓wp_mdiv, ↓wp_mnz, ↓wp_some, ↓wp_mbnd, ↓mlet_eq, ↓mbp_eq, ↓mbnd_eq, ↓mix_ite, ↓mdiv_ite, ↓mnz_ite, nI_add, nI_mul, nI_nat, nI_ltE, nI_leE, nI_eqE, nI_eqN, nI_Neq, nI_Nlt, nI_Nle, nI_ltN, nI_leN, ↓reduceIte, ↓Nat.reduceEqDiff, and_f, nt_e, nt_t, nl_t, nl_f, ne_t, ne_f, and_self, or_self, or_true, true_or, or_false, false_or, if_true, if_false, and_true, true_and, and_false, false_and, not_true, not_false_iff, mup_at, up_at, fil_at, ↓reduceIte, ↓Nat.reduceEqDiff, and_f, nt_e, nt_t, nl_t, nl_f, ne_t, ne_f, and_self, or_self, or_true, true_or, or_false, false_or, if_true, if_false, and_true, true_and, and_false, false_and, not_true, not_false_iff, vnar_bool]
    have := fin 1 (by decide) (by omega)
    rw [wp_some] at this
    exact ⟨this.2.1, this.2.2.2⟩
theorem m_guard {M : Mem} {α : Sp} {k what : Nat} (hS : M 12 48 = enc α) (hk : k < 3) (hw : what < 3) : f_X12_guard (nI k) (nI what) M = some (enc α (47 + 3 * k + what)) := by
  unfold f_X12_guard
  simp (disch := omega) only [lit_0, lit_1, lit_2, lit_3, lit_4, lit_5, lit_6, lit_7, lit_8, lit_9, lit_10, lit_11, lit_12, lit_13, lit_14, lit_15, lit_16, lit_20, lit_23, lit_24, lit_31, lit_32, lit_39, lit_43, lit_45, lit_47, lit_48, lit_56, lit_57, lit_59, lit_60, lit_62, lit_63, lit_89, lit_92, lit_96, lit_97, lit_99, lit_100, lit_102, lit_103, lit_104, lit_110, lit_111, lit_115, lit_117, lit_194, lit_200, lit_644, lit_736, lit_999, lit_1000, lit_9999, lit_10000, lit_1000000000, ↓wp_mlet, ↓wp_mbp, ↓wp_ite, ↓wp_mix, ↓wp_mdiv, ↓wp_mnz, ↓wp_some, ↓wp_mbnd, ↓mlet_eq, ↓mbp_eq, ↓mbnd_eq, ↓mix_ite, ↓mdiv_ite, ↓mnz_ite, nI_add, nI_mul, nI_nat, nI_ltE, nI_leE, nI_eqE, nI_eqN, nI_Neq, nI_Nlt, nI_Nle, nI_ltN, nI_leN, ↓reduceIte, ↓Nat.reduceEqDiff, and_f, nt_e, nt_t, nl_t, nl_f, ne_t, ne_f, and_self, or_self, or_true, true_or, or_false, false_or, if_true, if_false, and_true, true_and, and_false, false_and, not_true, not_false_iff, hS]
theorem m_guard0 {M : Mem} {α : Sp} {k : Nat} (hS : M 12 48 = enc α) (hk : k < 3) : f_X12_guard (nI k) (nI 0) M = some (nI (α (47 + 3 * k))) := by
  rw [m_guard hS hk (by decide), enc_n (by omega)]
  rfl
theorem m_guard2 {M : Mem} {α : Sp} {k : Nat} (hS : M 12 48 = enc α) (hk : k < 3) : f_X12_guard (nI k) (nI 2) M = some (nI (α (49 + 3 * k))) := by
  rw [m_guard hS hk (by decide), enc_n (by omega), show 47 + 3 * k + 2 = 49 + 3 * k by omega]
theorem m_turns {M : Mem} {α : Sp} {H : Nat} (hS : M 12 48 = enc α) (hi : Inv H α) (a1 : Int32) : MT M 1 (sTurn α a1) (f_X12_turns a1 M) := by
  obtain ⟨⟨b0, b1, b2, b3, b4, b5, b6, b7, b8, b9, b10, b11, b14⟩, -, -, bs, bk, -, -, -, bg, -⟩ := hi
  unfold sTurn f_X12_turns
  simp only [lit_0, lit_1, lit_2, lit_3, lit_4, lit_5, lit_6, lit_7, lit_8, lit_9, lit_10, lit_11, lit_12, lit_13, lit_14, lit_15, lit_16, lit_20, lit_23, lit_24, lit_31, lit_32, lit_39, lit_43, lit_45, lit_47, lit_48, lit_56, lit_57, lit_59, lit_60, lit_62, lit_63, lit_89, lit_92, lit_96, lit_97, lit_99, lit_100, lit_102, lit_103, lit_104, lit_110, lit_111, lit_115, lit_117, lit_194, lit_200, lit_644, lit_736, lit_999, lit_1000, lit_9999, lit_10000, lit_1000000000, m_isGuard hS (show α 10 < 2147483648 by omega), mbp_eq, toNat_0]
  rcases idx_c a1 (α 10) (by omega) with ⟨n1, h1, rfl, e1⟩ | ⟨e1, -⟩
  case inr =>
    simp (disch := omega) only [lit_0, lit_1, lit_2, lit_3, lit_4, lit_5, lit_6, lit_7, lit_8, lit_9, lit_10, lit_11, lit_12, lit_13, lit_14, lit_15, lit_16, lit_20, lit_23, lit_24, lit_31, lit_32, lit_39, lit_43, lit_45, lit_47, lit_48, lit_56, lit_57, lit_59, lit_60, lit_62, lit_63, lit_89, lit_92, lit_96, lit_97, lit_99, lit_100, lit_102, lit_103, lit_104, lit_110, lit_111, lit_115, lit_117, lit_194, lit_200, lit_644, lit_736, lit_999, lit_1000, lit_9999, lit_10000, lit_1000000000, ↓wp_mlet, ↓wp_mbp, ↓wp_ite, ↓wp_mix, ↓wp_mdiv, ↓wp_mnz, ↓wp_some, ↓wp_mbnd, ↓mlet_eq, ↓mbp_eq, ↓mbnd_eq, ↓mix_ite, ↓mdiv_ite, ↓mnz_ite, nI_add, nI_mul, nI_nat, nI_ltE, nI_leE, nI_eqE, nI_eqN, nI_Neq, nI_Nlt, nI_Nle, nI_ltN, nI_leN, ↓reduceIte, ↓Nat.reduceEqDiff, and_f, nt_e, nt_t, nl_t, nl_f, ne_t, ne_f, and_self, or_self, or_true, true_or, or_false, false_or, if_true, if_false, and_true, true_and, and_false, false_and, not_true, not_false_iff, toNat_0, Bool.false_and, Bool.true_and, Bool.and_false, Bool.and_true, Bool.false_eq_true, reduceCtorEq, Bool.true_eq_false, Bool.not_true, Bool.not_false, e1]
    exact MT_20
  obtain ⟨g1, g2, g3, g4, g5⟩ := bg n1 h1
  have eg : f_X12_guard (nI n1) (nI 1) M = some (enc α (48 + 3 * n1)) := by
    rw [m_guard hS (by omega) (by decide), show 47 + 3 * n1 + 1 = 48 + 3 * n1 by omega]
  simp (disch := omega) only [lit_0, lit_1, lit_2, lit_3, lit_4, lit_5, lit_6, lit_7, lit_8, lit_9, lit_10, lit_11, lit_12, lit_13, lit_14, lit_15, lit_16, lit_20, lit_23, lit_24, lit_31, lit_32, lit_39, lit_43, lit_45, lit_47, lit_48, lit_56, lit_57, lit_59, lit_60, lit_62, lit_63, lit_89, lit_92, lit_96, lit_97, lit_99, lit_100, lit_102, lit_103, lit_104, lit_110, lit_111, lit_115, lit_117, lit_194, lit_200, lit_644, lit_736, lit_999, lit_1000, lit_9999, lit_10000, lit_1000000000, ↓wp_mlet, ↓wp_mbp, ↓wp_ite, ↓wp_mix, ↓wp_mdiv, ↓wp_mnz, ↓wp_some, ↓wp_mbnd, ↓mlet_eq, ↓mbp_eq, ↓mbnd_eq, ↓mix_ite, ↓mdiv_ite, ↓mnz_ite, nI_add, nI_mul, nI_nat, nI_ltE, nI_leE, nI_eqE, nI_eqN, nI_Neq, nI_Nlt, nI_Nle, nI_ltN, nI_leN, ↓reduceIte, ↓Nat.reduceEqDiff, and_f, nt_e, nt_t, nl_t, nl_f, ne_t, ne_f, and_self, or_self, or_true, true_or, or_false, false_or, if_true, if_false, and_true, true_and, and_false, false_and, not_true, not_false_iff, toNat_0, Bool.false_and, Bool.true_and, Bool.and_false, Bool.and_true, Bool.false_eq_true, reduceCtorEq, Bool.true_eq_false, Bool.not_true, Bool.not_false, e1, eg, show 47 + 3 * n1 + 1 = 48 + 3 * n1 by omega]
  have hw1 : 48 + 3 * n1 = 48 ∨ 48 + 3 * n1 = 51 ∨ 48 + 3 * n1 = 54 := by omega
  by_cases hw : α (48 + 3 * n1) = 1
  · have e2 : (mup M 12 48 (48 + 3 * n1) (-enc α (48 + 3 * n1))) 12 48 = enc (up α (48 + 3 * n1) 2) := by
      rw [pm_self, hS, enc_upw (v := 2) hw1]
      rw [enc_n2 (by omega), hw]
      rfl
    have e3 : f_X12_guard (nI n1) (nI 1) (mup M 12 48 (48 + 3 * n1) (-enc α (48 + 3 * n1))) = some (-nI 1) := by
      rw [m_guard e2 (by omega) (by decide), show 47 + 3 * n1 + 1 = 48 + 3 * n1 by omega, enc_2 hw1 (by rw [up_at, if_pos rfl])]
    unfold MT f_X12_done
    simp (disch := omega) only [lit_0, lit_1, lit_2, lit_3, lit_4, lit_5, lit_6, lit_7, lit_8, lit_9, lit_10, lit_11, lit_12, lit_13, lit_14, lit_15, lit_16, lit_20, lit_23, lit_24, lit_31, lit_32, lit_39, lit_43, lit_45, lit_47, lit_48, lit_56, lit_57, lit_59, lit_60, lit_62, lit_63, lit_89, lit_92, lit_96, lit_97, lit_99, lit_100, lit_102, lit_103, lit_104, lit_110, lit_111, lit_115, lit_117, lit_194, lit_200, lit_644, lit_736, lit_999, lit_1000, lit_9999, lit_10000, lit_1000000000, ↓wp_mlet, ↓wp_mbp, ↓wp_ite, ↓wp_mix, ↓wp_mdiv, ↓wp_mnz, ↓wp_some, ↓wp_mbnd, ↓mlet_eq, ↓mbp_eq, ↓mbnd_eq, ↓mix_ite, ↓mdiv_ite, ↓mnz_ite, nI_add, nI_mul, nI_nat, nI_ltE, nI_leE, nI_eqE, nI_eqN, nI_Neq, nI_Nlt, nI_Nle, nI_ltN, nI_leN, ↓reduceIte, ↓Nat.reduceEqDiff, and_f, nt_e, nt_t, nl_t, nl_f, ne_t, ne_f, and_self, or_self, or_true, true_or, or_false, false_or, if_true, if_false, and_true, true_and, and_false, false_and, not_true, not_false_iff, mup_at, up_at, fil_at, ↓reduceIte, ↓Nat.reduceEqDiff, and_f, nt_e, nt_t, nl_t, nl_f, ne_t, ne_f, and_self, or_self, or_true, true_or, or_false, false_or, if_true, if_false, and_true, true_and, and_false, false_and, not_true, not_false_iff, e3, hw]
    refine ⟨?_, ?_, ?_⟩
    · rw [pm_ne (by omega), e2]
    · intro k hk
      simp (disch := omega) only [↓reduceIte, ↓Nat.reduceEqDiff, and_f, nt_e, nt_t, nl_t, nl_f, ne_t, ne_f, and_self, or_self, or_true, true_or, or_false, false_or, if_true, if_false, and_true, true_and, and_false, false_and, not_true, not_false_iff]
    · intro a b hab
      rw [pm_ne (by omega), pm_ne (by omega)]
  · have e2 : (mup M 12 48 (48 + 3 * n1) (-enc α (48 + 3 * n1))) 12 48 = enc (up α (48 + 3 * n1) 1) := by
      rw [pm_self, hS, enc_upw (v := 1) hw1]
      rw [enc_2 hw1 (by omega)]
      rfl
    have e3 : f_X12_guard (nI n1) (nI 1) (mup M 12 48 (48 + 3 * n1) (-enc α (48 + 3 * n1))) = some (nI 1) := by
      rw [m_guard e2 (by omega) (by decide), show 47 + 3 * n1 + 1 = 48 + 3 * n1 by omega, enc_n2 (by rw [up_at, if_pos rfl]; decide), up_at, if_pos rfl]
    have hw2 : α (48 + 3 * n1) = 2 := by omega
    unfold MT f_X12_done
    simp (disch := omega) only [lit_0, lit_1, lit_2, lit_3, lit_4, lit_5, lit_6, lit_7, lit_8, lit_9, lit_10, lit_11, lit_12, lit_13, lit_14, lit_15, lit_16, lit_20, lit_23, lit_24, lit_31, lit_32, lit_39, lit_43, lit_45, lit_47, lit_48, lit_56, lit_57, lit_59, lit_60, lit_62, lit_63, lit_89, lit_92, lit_96, lit_97, lit_99, lit_100, lit_102, lit_103, lit_104, lit_110, lit_111, lit_115, lit_117, lit_194, lit_200, lit_644, lit_736, lit_999, lit_1000, lit_9999, lit_10000, lit_1000000000, ↓wp_mlet, ↓wp_mbp, ↓wp_ite, ↓wp_mix, ↓wp_mdiv, ↓wp_mnz, ↓wp_some, ↓wp_mbnd, ↓mlet_eq, ↓mbp_eq, ↓mbnd_eq, ↓mix_ite, ↓mdiv_ite, ↓mnz_ite, nI_add, nI_mul, nI_nat, nI_ltE, nI_leE, nI_eqE, nI_eqN, nI_Neq, nI_Nlt, nI_Nle, nI_ltN, nI_leN, ↓reduceIte, ↓Nat.reduceEqDiff, and_f, nt_e, nt_t, nl_t, nl_f, ne_t, ne_f, and_self, or_self, or_true, true_or, or_false, false_or, if_true, if_false, and_true, true_and, and_false, false_and, not_true, not_false_iff, mup_at, up_at, fil_at, ↓reduceIte, ↓Nat.reduceEqDiff, and_f, nt_e, nt_t, nl_t, nl_f, ne_t, ne_f, and_self, or_self, or_true, true_or, or_false, false_or, if_true, if_false, and_true, true_and, and_false, false_and, not_true, not_false_iff, e3, hw2, Nat.reduceSub]
    refine ⟨?_, ?_, ?_⟩
    · rw [pm_ne (by omega), e2]
    · intro k hk
      simp (disch := omega) only [↓reduceIte, ↓Nat.reduceEqDiff, and_f, nt_e, nt_t, nl_t, nl_f, ne_t, ne_f, and_self, or_self, or_true, true_or, or_false, false_or, if_true, if_false, and_true, true_and, and_false, false_and, not_true, not_false_iff]
    · intro a b hab
      rw [pm_ne (by omega), pm_ne (by omega)]
/-! noise -/
def humV (α : Sp) (z l : Nat) : Nat := if α (31 + z) + l ≤ 20 then α (31 + z) + l else 20
def sHum (α : Sp) (a1 a2 : Int32) : Ex :=
  if idx a1 8 && rng1 a2 9 then .inr (humV α a1.toNatClampNeg a2.toNatClampNeg, up α (31 + a1.toNatClampNeg) (humV α a1.toNatClampNeg a2.toNatClampNeg)) else .inl (21, 0)
theorem c_hum {M : Mem} {α : Sp} {H : Nat} (hR : RC (M 0) α) (hi : Inv H α) (a1 a2 : Int32) : CT M 0 (sHum α a1 a2) (f_X9_tryHum 0 a1 a2 M) := by
  obtain ⟨hk, hd, hb, hj⟩ := hR
  obtain ⟨r0, r3, r4, r5, r6, r7, r8⟩ := id hb
  obtain ⟨⟨b0, b1, b2, b3, b4, b5, b6, b7, b8, b9, b10, b11, b14⟩, -, -, bs, bk, -, bz, -, bg, -⟩ := hi
  unfold sHum f_X9_tryHum
  simp only [c_hasZone, mbp_eq]
  rcases idx_c a1 8 (by omega) with ⟨n1, h1, rfl, e1⟩ | ⟨e1, -⟩
  case inr =>
    simp (disch := omega) only [lit_0, lit_1, lit_2, lit_3, lit_4, lit_5, lit_6, lit_7, lit_8, lit_9, lit_10, lit_11, lit_12, lit_13, lit_14, lit_15, lit_16, lit_20, lit_23, lit_24, lit_31, lit_32, lit_39, lit_43, lit_45, lit_47, lit_48, lit_56, lit_57, lit_59, lit_60, lit_62, lit_63, lit_89, lit_92, lit_96, lit_97, lit_99, lit_100, lit_102, lit_103, lit_104, lit_110, lit_111, lit_115, lit_117, lit_194, lit_200, lit_644, lit_736, lit_999, lit_1000, lit_9999, lit_10000, lit_1000000000, ↓wp_mlet, ↓wp_mbp, ↓wp_ite, ↓wp_mix, ↓wp_mdiv, ↓wp_mnz, ↓wp_some, ↓wp_mbnd, ↓mlet_eq, ↓mbp_eq, ↓mbnd_eq, ↓mix_ite, ↓mdiv_ite, ↓mnz_ite, nI_add, nI_mul, nI_nat, nI_ltE, nI_leE, nI_eqE, nI_eqN, nI_Neq, nI_Nlt, nI_Nle, nI_ltN, nI_leN, ↓reduceIte, ↓Nat.reduceEqDiff, and_f, nt_e, nt_t, nl_t, nl_f, ne_t, ne_f, and_self, or_self, or_true, true_or, or_false, false_or, if_true, if_false, and_true, true_and, and_false, false_and, not_true, not_false_iff, toNat_0, Bool.false_and, Bool.true_and, Bool.and_false, Bool.and_true, Bool.false_eq_true, reduceCtorEq, Bool.true_eq_false, Bool.not_true, Bool.not_false, e1]
    exact CT_21
  rcases rng1_c a2 9 with ⟨n4, h4, h4', rfl, e4⟩ | ⟨e4, h4⟩
  case inr =>
    simp (disch := omega) only [lit_0, lit_1, lit_2, lit_3, lit_4, lit_5, lit_6, lit_7, lit_8, lit_9, lit_10, lit_11, lit_12, lit_13, lit_14, lit_15, lit_16, lit_20, lit_23, lit_24, lit_31, lit_32, lit_39, lit_43, lit_45, lit_47, lit_48, lit_56, lit_57, lit_59, lit_60, lit_62, lit_63, lit_89, lit_92, lit_96, lit_97, lit_99, lit_100, lit_102, lit_103, lit_104, lit_110, lit_111, lit_115, lit_117, lit_194, lit_200, lit_644, lit_736, lit_999, lit_1000, lit_9999, lit_10000, lit_1000000000, ↓wp_mlet, ↓wp_mbp, ↓wp_ite, ↓wp_mix, ↓wp_mdiv, ↓wp_mnz, ↓wp_some, ↓wp_mbnd, ↓mlet_eq, ↓mbp_eq, ↓mbnd_eq, ↓mix_ite, ↓mdiv_ite, ↓mnz_ite, nI_add, nI_mul, nI_nat, nI_ltE, nI_leE, nI_eqE, nI_eqN, nI_Neq, nI_Nlt, nI_Nle, nI_ltN, nI_leN, ↓reduceIte, ↓Nat.reduceEqDiff, and_f, nt_e, nt_t, nl_t, nl_f, ne_t, ne_f, and_self, or_self, or_true, true_or, or_false, false_or, if_true, if_false, and_true, true_and, and_false, false_and, not_true, not_false_iff, toNat_0, Bool.false_and, Bool.true_and, Bool.and_false, Bool.and_true, Bool.false_eq_true, reduceCtorEq, Bool.true_eq_false, Bool.not_true, Bool.not_false, e1, e4]
    rcases h4 with h4 | ⟨j, hj, h4, rfl⟩
    · simp (disch := omega) only [lit_0, lit_1, lit_2, lit_3, lit_4, lit_5, lit_6, lit_7, lit_8, lit_9, lit_10, lit_11, lit_12, lit_13, lit_14, lit_15, lit_16, lit_20, lit_23, lit_24, lit_31, lit_32, lit_39, lit_43, lit_45, lit_47, lit_48, lit_56, lit_57, lit_59, lit_60, lit_62, lit_63, lit_89, lit_92, lit_96, lit_97, lit_99, lit_100, lit_102, lit_103, lit_104, lit_110, lit_111, lit_115, lit_117, lit_194, lit_200, lit_644, lit_736, lit_999, lit_1000, lit_9999, lit_10000, lit_1000000000, ↓wp_mlet, ↓wp_mbp, ↓wp_ite, ↓wp_mix, ↓wp_mdiv, ↓wp_mnz, ↓wp_some, ↓wp_mbnd, ↓mlet_eq, ↓mbp_eq, ↓mbnd_eq, ↓mix_ite, ↓mdiv_ite, ↓mnz_ite, nI_add, nI_mul, nI_nat, nI_ltE, nI_leE, nI_eqE, nI_eqN, nI_Neq, nI_Nlt, nI_Nle, nI_ltN, nI_leN, ↓reduceIte, ↓Nat.reduceEqDiff, and_f, nt_e, nt_t, nl_t, nl_f, ne_t, ne_f, and_self, or_self, or_true, true_or, or_false, false_or, if_true, if_false, and_true, true_and, and_false, false_and, not_true, not_false_iff, (neg_of h4 (n := 1) (by decide)).2.1]
      exact CT_21
    · rcases h4 with h4 | h4
      · simp (disch := omega) only [lit_0, lit_1, lit_2, lit_3, lit_4, lit_5, lit_6, lit_7, lit_8, lit_9, lit_10, lit_11, lit_12, lit_13, lit_14, lit_15, lit_16, lit_20, lit_23, lit_24, lit_31, lit_32, lit_39, lit_43, lit_45, lit_47, lit_48, lit_56, lit_57, lit_59, lit_60, lit_62, lit_63, lit_89, lit_92, lit_96, lit_97, lit_99, lit_100, lit_102, lit_103, lit_104, lit_110, lit_111, lit_115, lit_117, lit_194, lit_200, lit_644, lit_736, lit_999, lit_1000, lit_9999, lit_10000, lit_1000000000, ↓wp_mlet, ↓wp_mbp, ↓wp_ite, ↓wp_mix, ↓wp_mdiv, ↓wp_mnz, ↓wp_some, ↓wp_mbnd, ↓mlet_eq, ↓mbp_eq, ↓mbnd_eq, ↓mix_ite, ↓mdiv_ite, ↓mnz_ite, nI_add, nI_mul, nI_nat, nI_ltE, nI_leE, nI_eqE, nI_eqN, nI_Neq, nI_Nlt, nI_Nle, nI_ltN, nI_leN, ↓reduceIte, ↓Nat.reduceEqDiff, and_f, nt_e, nt_t, nl_t, nl_f, ne_t, ne_f, and_self, or_self, or_true, true_or, or_false, false_or, if_true, if_false, and_true, true_and, and_false, false_and, not_true, not_false_iff]
        exact CT_21
      · simp (disch := omega) only [lit_0, lit_1, lit_2, lit_3, lit_4, lit_5, lit_6, lit_7, lit_8, lit_9, lit_10, lit_11, lit_12, lit_13, lit_14, lit_15, lit_16, lit_20, lit_23, lit_24, lit_31, lit_32, lit_39, lit_43, lit_45, lit_47, lit_48, lit_56, lit_57, lit_59, lit_60, lit_62, lit_63, lit_89, lit_92, lit_96, lit_97, lit_99, lit_100, lit_102, lit_103, lit_104, lit_110, lit_111, lit_115, lit_117, lit_194, lit_200, lit_644, lit_736, lit_999, lit_1000, lit_9999, lit_10000, lit_1000000000, ↓wp_mlet, ↓wp_mbp, ↓wp_ite, ↓wp_mix, ↓wp_mdiv, ↓wp_mnz, ↓wp_some, ↓wp_mbnd, ↓mlet_eq, ↓mbp_eq, ↓mbnd_eq, ↓mix_ite, ↓mdiv_ite, ↓mnz_ite, nI_add, nI_mul, nI_nat, nI_ltE, nI_leE, nI_eqE, nI_eqN, nI_Neq, nI_Nlt, nI_Nle, nI_ltN, nI_leN, ↓reduceIte, ↓Nat.reduceEqDiff, and_f, nt_e, nt_t, nl_t, nl_f, ne_t, ne_f, and_self, or_self, or_true, true_or, or_false, false_or, if_true, if_false, and_true, true_and, and_false, false_and, not_true, not_false_iff]
        exact CT_21
  have hz := (bz n1 h1).1
  have ev : (if nI (α (31 + n1) + n4) < nI 20 then nI (α (31 + n1) + n4) else nI 20) = nI (humV α n1 n4) := by
    unfold humV
    by_cases q : α (31 + n1) + n4 < 20
    · rw [if_pos (by rw [nI_ltE (by omega) (by omega)]; exact q), if_pos (by omega)]
    · rw [if_neg (by rw [nI_ltE (by omega) (by omega)]; exact q)]
      by_cases q2 : α (31 + n1) + n4 ≤ 20
      · rw [if_pos q2, show α (31 + n1) + n4 = 20 by omega]
      · rw [if_neg q2]
  unfold CT
  have hv : f_X9_tryHum 0 (nI n1) (nI n4) M = some (nI 0, mup (mup M 0 7 n1 (nI (humV α n1 n4))) 0 0 4 (nI (humV α n1 n4))) := by
    unfold f_X9_tryHum
    simp only [c_hasZone, mbp_eq, e1]
    rw [← ev]
    simp (disch := omega) only [lit_0, lit_1, lit_2, lit_3, lit_4, lit_5, lit_6, lit_7, lit_8, lit_9, lit_10, lit_11, lit_12, lit_13, lit_14, lit_15, lit_16, lit_20, lit_23, lit_24, lit_31, lit_32, lit_39, lit_43, lit_45, lit_47, lit_48, lit_56, lit_57, lit_59, lit_60, lit_62, lit_63, lit_89, lit_92, lit_96, lit_97, lit_99, lit_100, lit_102, lit_103, lit_104, lit_110, lit_111, lit_115, lit_117, lit_194, lit_200, lit_644, lit_736, lit_999, lit_1000, lit_9999, lit_10000, lit_1000000000, ↓wp_mlet, ↓wp_mbp, ↓wp_ite, ↓wp_mix, ↓wp_mdiv, ↓wp_mnz, ↓wp_some, ↓wp_mbnd, ↓mlet_eq, ↓mbp_eq, ↓mbnd_eq, ↓mix_ite, ↓mdiv_ite, ↓mnz_ite, nI_add, nI_mul, nI_nat, nI_ltE, nI_leE, nI_eqE, nI_eqN, nI_Neq, nI_Nlt, nI_Nle, nI_ltN, nI_leN, ↓reduceIte, ↓Nat.reduceEqDiff, and_f, nt_e, nt_t, nl_t, nl_f, ne_t, ne_f, and_self, or_self, or_true, true_or, or_false, false_or, if_true, if_false, and_true, true_and, and_false, false_and, not_true, not_false_iff, toNat_0, Bool.false_and, Bool.true_and, Bool.and_false, Bool.and_true, Bool.false_eq_true, reduceCtorEq, Bool.true_eq_false, Bool.not_true, Bool.not_false, mup_at, up_at, fil_at, ↓reduceIte, ↓Nat.reduceEqDiff, and_f, nt_e, nt_t, nl_t, nl_f, ne_t, ne_f, and_self, or_self, or_true, true_or, or_false, false_or, if_true, if_false, and_true, true_and, and_false, false_and, not_true, not_false_iff, r5 n1 h1]
  unfold f_X9_tryHum at hv
  simp only [c_hasZone, mbp_eq, e1] at hv
  rw [e1, hv, e4, if_pos (show (true && true) = true from rfl)]
  simp (disch := omega) only [nI_nat, wp_some]
  refine ⟨trivial, ⟨?_, ?_, ?_, ?_⟩, ?_, ?_⟩
  · exact Rk.of (fun i _ _ => by funext c; simp (disch := omega) only [mup_at, up_at, fil_at, ↓reduceIte, ↓Nat.reduceEqDiff, and_f, nt_e, nt_t, nl_t, nl_f, ne_t, ne_f, and_self, or_self, or_true, true_or, or_false, false_or, if_true, if_false, and_true, true_and, and_false, false_and, not_true, not_false_iff]) (fun j hj => by simp (disch := omega) only [mup_at, up_at, fil_at, ↓reduceIte, ↓Nat.reduceEqDiff, and_f, nt_e, nt_t, nl_t, nl_f, ne_t, ne_f, and_self, or_self, or_true, true_or, or_false, false_or, if_true, if_false, and_true, true_and, and_false, false_and, not_true, not_false_iff]) hk
  · exact Rd.of (by funext c; simp (disch := omega) only [mup_at, up_at, fil_at, ↓reduceIte, ↓Nat.reduceEqDiff, and_f, nt_e, nt_t, nl_t, nl_f, ne_t, ne_f, and_self, or_self, or_true, true_or, or_false, false_or, if_true, if_false, and_true, true_and, and_false, false_and, not_true, not_false_iff]) (fun j hj => by simp (disch := omega) only [mup_at, up_at, fil_at, ↓reduceIte, ↓Nat.reduceEqDiff, and_f, nt_e, nt_t, nl_t, nl_f, ne_t, ne_f, and_self, or_self, or_true, true_or, or_false, false_or, if_true, if_false, and_true, true_and, and_false, false_and, not_true, not_false_iff]) hd
  · refine ⟨?_, ?_, ?_, fun k hk => ?_, fun k hk => ?_, fun k hk hk9 => ?_, fun k hk => ?_⟩
    · simp (disch := omega) only [mup_at, up_at, fil_at, ↓reduceIte, ↓Nat.reduceEqDiff, and_f, nt_e, nt_t, nl_t, nl_f, ne_t, ne_f, and_self, or_self, or_true, true_or, or_false, false_or, if_true, if_false, and_true, true_and, and_false, false_and, not_true, not_false_iff, r0]
    · simp (disch := omega) only [mup_at, up_at, fil_at, ↓reduceIte, ↓Nat.reduceEqDiff, and_f, nt_e, nt_t, nl_t, nl_f, ne_t, ne_f, and_self, or_self, or_true, true_or, or_false, false_or, if_true, if_false, and_true, true_and, and_false, false_and, not_true, not_false_iff, r3]
    · simp (disch := omega) only [mup_at, up_at, fil_at, ↓reduceIte, ↓Nat.reduceEqDiff, and_f, nt_e, nt_t, nl_t, nl_f, ne_t, ne_f, and_self, or_self, or_true, true_or, or_false, false_or, if_true, if_false, and_true, true_and, and_false, false_and, not_true, not_false_iff, r4]
    · by_cases hk' : k = n1
      · subst hk'
        simp (disch := omega) only [mup_at, up_at, fil_at, ↓reduceIte, ↓Nat.reduceEqDiff, and_f, nt_e, nt_t, nl_t, nl_f, ne_t, ne_f, and_self, or_self, or_true, true_or, or_false, false_or, if_true, if_false, and_true, true_and, and_false, false_and, not_true, not_false_iff]
      · simp (disch := omega) only [mup_at, up_at, fil_at, ↓reduceIte, ↓Nat.reduceEqDiff, and_f, nt_e, nt_t, nl_t, nl_f, ne_t, ne_f, and_self, or_self, or_true, true_or, or_false, false_or, if_true, if_false, and_true, true_and, and_false, false_and, not_true, not_false_iff, r5 k hk]
    · simp (disch := omega) only [mup_at, up_at, fil_at, ↓reduceIte, ↓Nat.reduceEqDiff, and_f, nt_e, nt_t, nl_t, nl_f, ne_t, ne_f, and_self, or_self, or_true, true_or, or_false, false_or, if_true, if_false, and_true, true_and, and_false, false_and, not_true, not_false_iff, r6 k hk]
    · simp (disch := omega) only [mup_at, up_at, fil_at, ↓reduceIte, ↓Nat.reduceEqDiff, and_f, nt_e, nt_t, nl_t, nl_f, ne_t, ne_f, and_self, or_self, or_true, true_or, or_false, false_or, if_true, if_false, and_true, true_and, and_false, false_and, not_true, not_false_iff] at hk9
      have q := r7 k hk (by omega)
      refine ⟨?_, ?_, ?_⟩
      · simp (disch := omega) only [mup_at, up_at, fil_at, ↓reduceIte, ↓Nat.reduceEqDiff, and_f, nt_e, nt_t, nl_t, nl_f, ne_t, ne_f, and_self, or_self, or_true, true_or, or_false, false_or, if_true, if_false, and_true, true_and, and_false, false_and, not_true, not_false_iff, q.1]
      · simp (disch := omega) only [mup_at, up_at, fil_at, ↓reduceIte, ↓Nat.reduceEqDiff, and_f, nt_e, nt_t, nl_t, nl_f, ne_t, ne_f, and_self, or_self, or_true, true_or, or_false, false_or, if_true, if_false, and_true, true_and, and_false, false_and, not_true, not_false_iff, q.2.1]
      · simp (disch := omega) only [mup_at, up_at, fil_at, ↓reduceIte, ↓Nat.reduceEqDiff, and_f, nt_e, nt_t, nl_t, nl_f, ne_t, ne_f, and_self, or_self, or_true, true_or, or_false, false_or, if_true, if_false, and_true, true_and, and_false, false_and, not_true, not_false_iff, q.2.2]
    · obtain ⟨c, c1, c2⟩ := r8 k hk
      exact ⟨c, c1, by simp (disch := omega) only [mup_at, up_at, fil_at, ↓reduceIte, ↓Nat.reduceEqDiff, and_f, nt_e, nt_t, nl_t, nl_f, ne_t, ne_f, and_self, or_self, or_true, true_or, or_false, false_or, if_true, if_false, and_true, true_and, and_false, false_and, not_true, not_false_iff, c2]⟩
  · exact Rj.of (fun i _ _ => by funext c; simp (disch := omega) only [mup_at, up_at, fil_at, ↓reduceIte, ↓Nat.reduceEqDiff, and_f, nt_e, nt_t, nl_t, nl_f, ne_t, ne_f, and_self, or_self, or_true, true_or, or_false, false_or, if_true, if_false, and_true, true_and, and_false, false_and, not_true, not_false_iff]) (fun j hj => by simp (disch := omega) only [mup_at, up_at, fil_at, ↓reduceIte, ↓Nat.reduceEqDiff, and_f, nt_e, nt_t, nl_t, nl_f, ne_t, ne_f, and_self, or_self, or_true, true_or, or_false, false_or, if_true, if_false, and_true, true_and, and_false, false_and, not_true, not_false_iff]) hj
  · simp (disch := omega) only [mup_at, up_at, fil_at, ↓reduceIte, ↓Nat.reduceEqDiff, and_f, nt_e, nt_t, nl_t, nl_f, ne_t, ne_f, and_self, or_self, or_true, true_or, or_false, false_or, if_true, if_false, and_true, true_and, and_false, false_and, not_true, not_false_iff]
  · intro a ha
    rw [pm_g ha, pm_g ha]
theorem m_hums {M : Mem} {α : Sp} {H : Nat} (hS : M 12 48 = enc α) (hi : Inv H α) (a1 a2 : Int32) : MT M 1 (sHum α a1 a2) (f_X12_hums a1 a2 M) := by
  obtain ⟨⟨b0, b1, b2, b3, b4, b5, b6, b7, b8, b9, b10, b11, b14⟩, -, -, bs, bk, -, bz, -, bg, -⟩ := hi
  unfold sHum f_X12_hums
  simp only [lit_0, lit_1, lit_2, lit_3, lit_4, lit_5, lit_6, lit_7, lit_8, lit_9, lit_10, lit_11, lit_12, lit_13, lit_14, lit_15, lit_16, lit_20, lit_23, lit_24, lit_31, lit_32, lit_39, lit_43, lit_45, lit_47, lit_48, lit_56, lit_57, lit_59, lit_60, lit_62, lit_63, lit_89, lit_92, lit_96, lit_97, lit_99, lit_100, lit_102, lit_103, lit_104, lit_110, lit_111, lit_115, lit_117, lit_194, lit_200, lit_644, lit_736, lit_999, lit_1000, lit_9999, lit_10000, lit_1000000000]
  rw [rng_1 a2 9 (by decide)]
  simp only [m_isZone, mbp_eq, toNat_0]
  rcases idx_c a1 8 (by omega) with ⟨n1, h1, rfl, e1⟩ | ⟨e1, -⟩
  case inr =>
    simp (disch := omega) only [lit_0, lit_1, lit_2, lit_3, lit_4, lit_5, lit_6, lit_7, lit_8, lit_9, lit_10, lit_11, lit_12, lit_13, lit_14, lit_15, lit_16, lit_20, lit_23, lit_24, lit_31, lit_32, lit_39, lit_43, lit_45, lit_47, lit_48, lit_56, lit_57, lit_59, lit_60, lit_62, lit_63, lit_89, lit_92, lit_96, lit_97, lit_99, lit_100, lit_102, lit_103, lit_104, lit_110, lit_111, lit_115, lit_117, lit_194, lit_200, lit_644, lit_736, lit_999, lit_1000, lit_9999, lit_10000, lit_1000000000, ↓wp_mlet, ↓wp_mbp, ↓wp_ite, ↓wp_mix, ↓wp_mdiv, ↓wp_mnz, ↓wp_some, ↓wp_mbnd, ↓mlet_eq, ↓mbp_eq, ↓mbnd_eq, ↓mix_ite, ↓mdiv_ite, ↓mnz_ite, nI_add, nI_mul, nI_nat, nI_ltE, nI_leE, nI_eqE, nI_eqN, nI_Neq, nI_Nlt, nI_Nle, nI_ltN, nI_leN, ↓reduceIte, ↓Nat.reduceEqDiff, and_f, nt_e, nt_t, nl_t, nl_f, ne_t, ne_f, and_self, or_self, or_true, true_or, or_false, false_or, if_true, if_false, and_true, true_and, and_false, false_and, not_true, not_false_iff, toNat_0, Bool.false_and, Bool.true_and, Bool.and_false, Bool.and_true, Bool.false_eq_true, reduceCtorEq, Bool.true_eq_false, Bool.not_true, Bool.not_false, e1]
    exact MT_21
  rcases rng1_c a2 9 with ⟨n4, h4, h4', rfl, e4⟩ | ⟨e4, h4⟩
  case inr =>
    simp (disch := omega) only [lit_0, lit_1, lit_2, lit_3, lit_4, lit_5, lit_6, lit_7, lit_8, lit_9, lit_10, lit_11, lit_12, lit_13, lit_14, lit_15, lit_16, lit_20, lit_23, lit_24, lit_31, lit_32, lit_39, lit_43, lit_45, lit_47, lit_48, lit_56, lit_57, lit_59, lit_60, lit_62, lit_63, lit_89, lit_92, lit_96, lit_97, lit_99, lit_100, lit_102, lit_103, lit_104, lit_110, lit_111, lit_115, lit_117, lit_194, lit_200, lit_644, lit_736, lit_999, lit_1000, lit_9999, lit_10000, lit_1000000000, ↓wp_mlet, ↓wp_mbp, ↓wp_ite, ↓wp_mix, ↓wp_mdiv, ↓wp_mnz, ↓wp_some, ↓wp_mbnd, ↓mlet_eq, ↓mbp_eq, ↓mbnd_eq, ↓mix_ite, ↓mdiv_ite, ↓mnz_ite, nI_add, nI_mul, nI_nat, nI_ltE, nI_leE, nI_eqE, nI_eqN, nI_Neq, nI_Nlt, nI_Nle, nI_ltN, nI_leN, ↓reduceIte, ↓Nat.reduceEqDiff, and_f, nt_e, nt_t, nl_t, nl_f, ne_t, ne_f, and_self, or_self, or_true, true_or, or_false, false_or, if_true, if_false, and_true, true_and, and_false, false_and, not_true, not_false_iff, toNat_0, Bool.false_and, Bool.true_and, Bool.and_false, Bool.and_true, Bool.false_eq_true, reduceCtorEq, Bool.true_eq_false, Bool.not_true, Bool.not_false, e1, e4]
    exact MT_21
  have hz := (bz n1 h1).1
  simp (disch := omega) only [lit_0, lit_1, lit_2, lit_3, lit_4, lit_5, lit_6, lit_7, lit_8, lit_9, lit_10, lit_11, lit_12, lit_13, lit_14, lit_15, lit_16, lit_20, lit_23, lit_24, lit_31, lit_32, lit_39, lit_43, lit_45, lit_47, lit_48, lit_56, lit_57, lit_59, lit_60, lit_62, lit_63, lit_89, lit_92, lit_96, lit_97, lit_99, lit_100, lit_102, lit_103, lit_104, lit_110, lit_111, lit_115, lit_117, lit_194, lit_200, lit_644, lit_736, lit_999, lit_1000, lit_9999, lit_10000, lit_1000000000, ↓wp_mlet, ↓wp_mbp, ↓wp_ite, ↓wp_mix, ↓wp_mdiv, ↓wp_mnz, ↓wp_some, ↓wp_mbnd, ↓mlet_eq, ↓mbp_eq, ↓mbnd_eq, ↓mix_ite, ↓mdiv_ite, ↓mnz_ite, nI_add, nI_mul, nI_nat, nI_ltE, nI_leE, nI_eqE, nI_eqN, nI_Neq, nI_Nlt, nI_Nle, nI_ltN, nI_leN, ↓reduceIte, ↓Nat.reduceEqDiff, and_f, nt_e, nt_t, nl_t, nl_f, ne_t, ne_f, and_self, or_self, or_true, true_or, or_false, false_or, if_true, if_false, and_true, true_and, and_false, false_and, not_true, not_false_iff, toNat_0, Bool.false_and, Bool.true_and, Bool.and_false, Bool.and_true, Bool.false_eq_true, reduceCtorEq, Bool.true_eq_false, Bool.not_true, Bool.not_false, e1, e4, ms_n hS]
  unfold MT f_X12_done humV
  by_cases q : α (31 + n1) + n4 ≤ 20
  · simp (disch := omega) only [lit_0, lit_1, lit_2, lit_3, lit_4, lit_5, lit_6, lit_7, lit_8, lit_9, lit_10, lit_11, lit_12, lit_13, lit_14, lit_15, lit_16, lit_20, lit_23, lit_24, lit_31, lit_32, lit_39, lit_43, lit_45, lit_47, lit_48, lit_56, lit_57, lit_59, lit_60, lit_62, lit_63, lit_89, lit_92, lit_96, lit_97, lit_99, lit_100, lit_102, lit_103, lit_104, lit_110, lit_111, lit_115, lit_117, lit_194, lit_200, lit_644, lit_736, lit_999, lit_1000, lit_9999, lit_10000, lit_1000000000, ↓wp_mlet, ↓wp_mbp, ↓wp_ite, ↓wp_mix, ↓wp_mdiv, ↓wp_mnz, ↓wp_some, ↓wp_mbnd, ↓mlet_eq, ↓mbp_eq, ↓mbnd_eq, ↓mix_ite, ↓mdiv_ite, ↓mnz_ite, nI_add, nI_mul, nI_nat, nI_ltE, nI_leE, nI_eqE, nI_eqN, nI_Neq, nI_Nlt, nI_Nle, nI_ltN, nI_leN, ↓reduceIte, ↓Nat.reduceEqDiff, and_f, nt_e, nt_t, nl_t, nl_f, ne_t, ne_f, and_self, or_self, or_true, true_or, or_false, false_or, if_true, if_false, and_true, true_and, and_false, false_and, not_true, not_false_iff, mup_at, up_at, fil_at, ↓reduceIte, ↓Nat.reduceEqDiff, and_f, nt_e, nt_t, nl_t, nl_f, ne_t, ne_f, and_self, or_self, or_true, true_or, or_false, false_or, if_true, if_false, and_true, true_and, and_false, false_and, not_true, not_false_iff, q]
    refine ⟨?_, ?_, ?_⟩
    · rw [pm_ne (by omega), pm_self, hS, enc_up (by omega)]
    · intro k hk
      simp (disch := omega) only [↓reduceIte, ↓Nat.reduceEqDiff, and_f, nt_e, nt_t, nl_t, nl_f, ne_t, ne_f, and_self, or_self, or_true, true_or, or_false, false_or, if_true, if_false, and_true, true_and, and_false, false_and, not_true, not_false_iff]
    · intro a b hab
      rw [pm_ne (by omega), pm_ne (by omega)]
  · simp (disch := omega) only [lit_0, lit_1, lit_2, lit_3, lit_4, lit_5, lit_6, lit_7, lit_8, lit_9, lit_10, lit_11, lit_12, lit_13, lit_14, lit_15, lit_16, lit_20, lit_23, lit_24, lit_31, lit_32, lit_39, lit_43, lit_45, lit_47, lit_48, lit_56, lit_57, lit_59, lit_60, lit_62, lit_63, lit_89, lit_92, lit_96, lit_97, lit_99, lit_100, lit_102, lit_103, lit_104, lit_110, lit_111, lit_115, lit_117, lit_194, lit_200, lit_644, lit_736, lit_999, lit_1000, lit_9999, lit_10000, lit_1000000000, ↓wp_mlet, ↓wp_mbp, ↓wp_ite, ↓wp_mix, ↓wp_mdiv, ↓wp_mnz, ↓wp_some, ↓wp_mbnd, ↓mlet_eq, ↓mbp_eq, ↓mbnd_eq, ↓mix_ite, ↓mdiv_ite, ↓mnz_ite, nI_add, nI_mul, nI_nat, nI_ltE, nI_leE, nI_eqE, nI_eqN, nI_Neq, nI_Nlt, nI_Nle, nI_ltN, nI_leN, ↓reduceIte, ↓Nat.reduceEqDiff, and_f, nt_e, nt_t, nl_t, nl_f, ne_t, ne_f, and_self, or_self, or_true, true_or, or_false, false_or, if_true, if_false, and_true, true_and, and_false, false_and, not_true, not_false_iff, mup_at, up_at, fil_at, ↓reduceIte, ↓Nat.reduceEqDiff, and_f, nt_e, nt_t, nl_t, nl_f, ne_t, ne_f, and_self, or_self, or_true, true_or, or_false, false_or, if_true, if_false, and_true, true_and, and_false, false_and, not_true, not_false_iff, q]
    refine ⟨?_, ?_, ?_⟩
    · rw [pm_ne (by omega), pm_self, hS, enc_up (by omega)]
    · intro k hk
      simp (disch := omega) only [↓reduceIte, ↓Nat.reduceEqDiff, and_f, nt_e, nt_t, nl_t, nl_f, ne_t, ne_f, and_self, or_self, or_true, true_or, or_false, false_or, if_true, if_false, and_true, true_and, and_false, false_and, not_true, not_false_iff]
    · intro a b hab
      rw [pm_ne (by omega), pm_ne (by omega)]
/-! THE LOG -/
def shiftSp (α : Sp) : Sp := fun j => if j = 14 then 11 else if 56 ≤ j ∧ j < 89 then α (j + 3) else α j
theorem shiftSp_at (α : Sp) (j : Nat) : shiftSp α j = if j = 14 then 11 else if 56 ≤ j ∧ j < 89 then α (j + 3) else α j := Eq.trans rfl rfl
def putSp (β : Sp) (k w : Nat) : Sp := fun j => if j = 14 then β 14 + 1 else if j = 58 + 3 * β 14 then w else if j = 57 + 3 * β 14 then k else if j = 56 + 3 * β 14 then β 11 else β j
theorem putSp_at (β : Sp) (k w j : Nat) : putSp β k w j = if j = 14 then β 14 + 1 else if j = 58 + 3 * β 14 then w else if j = 57 + 3 * β 14 then k else if j = 56 + 3 * β 14 then β 11 else β j := Eq.trans rfl rfl
def logB (α : Sp) : Sp := if α 14 = 12 then shiftSp α else α
def sLog (α : Sp) (k w : Nat) : Sp := putSp (logB α) k w
theorem logB_14 {α : Sp} (h : α 14 ≤ 12) : logB α 14 < 12 := by
  unfold logB
  split
  · rw [shiftSp_at, if_pos rfl]; decide
  · omega
theorem logB_ne {α : Sp} {j : Nat} (h1 : j ≠ 14) (h2 : ¬ (56 ≤ j ∧ j < 92)) : logB α j = α j := by
  unfold logB
  split
  · rw [shiftSp_at, if_neg h1, if_neg (by omega)]
  · rfl
theorem sLog_ne {α : Sp} {k w j : Nat} (h14 : α 14 ≤ 12) (h1 : j ≠ 14) (h2 : ¬ (56 ≤ j ∧ j < 92)) : sLog α k w j = α j := by
  have := logB_14 h14
  unfold sLog
  rw [putSp_at, if_neg h1, if_neg (by omega), if_neg (by omega), if_neg (by omega), logB_ne h1 h2]
/-- the model's row alone has changed, to β -/
def mS (M M1 : Mem) (β : Sp) : Prop := M1 12 48 = enc β ∧ ∀ a b, ¬ (a = 12 ∧ b = 48) → M1 a b = M a b
theorem mS.trans {M M1 M2 : Mem} {β γ : Sp} (h1 : mS M M1 β) (h2 : mS M1 M2 γ) : mS M M2 γ := ⟨h2.1, fun a b h => (h2.2 a b h).trans (h1.2 a b h)⟩
theorem wp_mcpy {β : Type} {ty : FieldType} {M : Mem} {g0 i0 n0 sp g1 i1 n1 dp n : Nat} {k : Mem → Option (β × Mem)} {Q : β → Mem → Prop} (h1 : sp + n ≤ n0) (h2 : dp + n ≤ n1) (hb : n0 < 2147483648 ∧ n1 < 2147483648) (hf : ∀ j, j < n → fits ty (.int (M g0 i0 (sp + j))) = true) :
    wp (mcpy ty M g0 i0 n0 (nI sp) g1 i1 n1 (nI dp) (nI n) k) Q = wp (k (mcp M g0 i0 g1 i1 sp dp n)) Q := by
  unfold mcpy
  rw [if_pos]
  · rw [nI_nat (by omega), nI_nat (by omega), nI_nat (by omega)]
  · rw [nI_nat (by omega), nI_nat (by omega), nI_nat (by omega)]
    exact ⟨nI_pos (by omega), nI_pos (by omega), nI_pos (by omega), h1, h2, hf⟩
theorem m_logTail {M : Mem} {β : Sp} {k w : Nat} (hS : M 12 48 = enc β) (h14 : β 14 < 12) : mS M (mup (mup (mup (mup M 12 48 (56 + 3 * β 14) (nI (β 11))) 12 48 (56 + 3 * β 14 + 1) (nI k)) 12 48 (56 + 3 * β 14 + 2) (nI w)) 12 48 14 (nI (β 14 + 1))) (putSp β k w) := by
  refine ⟨?_, fun a b h => by rw [pm_ne h, pm_ne h, pm_ne h, pm_ne h]⟩
  refine enc_ext (α := β) fun j => ?_
  by_cases q1 : j = 14
  · subst q1
    exact Or.inr ⟨by decide, by simp (disch := omega) only [mup_at, up_at, fil_at, ↓reduceIte, ↓Nat.reduceEqDiff, and_f, nt_e, nt_t, nl_t, nl_f, ne_t, ne_f, and_self, or_self, or_true, true_or, or_false, false_or, if_true, if_false, and_true, true_and, and_false, false_and, not_true, not_false_iff, putSp_at]⟩
  · by_cases q2 : j = 58 + 3 * β 14
    · exact Or.inr ⟨by omega, by simp (disch := omega) only [mup_at, up_at, fil_at, ↓reduceIte, ↓Nat.reduceEqDiff, and_f, nt_e, nt_t, nl_t, nl_f, ne_t, ne_f, and_self, or_self, or_true, true_or, or_false, false_or, if_true, if_false, and_true, true_and, and_false, false_and, not_true, not_false_iff, putSp_at]⟩
    · by_cases q3 : j = 57 + 3 * β 14
      · exact Or.inr ⟨by omega, by simp (disch := omega) only [mup_at, up_at, fil_at, ↓reduceIte, ↓Nat.reduceEqDiff, and_f, nt_e, nt_t, nl_t, nl_f, ne_t, ne_f, and_self, or_self, or_true, true_or, or_false, false_or, if_true, if_false, and_true, true_and, and_false, false_and, not_true, not_false_iff, putSp_at]⟩
      · by_cases q4 : j = 56 + 3 * β 14
        · exact Or.inr ⟨by omega, by simp (disch := omega) only [mup_at, up_at, fil_at, ↓reduceIte, ↓Nat.reduceEqDiff, and_f, nt_e, nt_t, nl_t, nl_f, ne_t, ne_f, and_self, or_self, or_true, true_or, or_false, false_or, if_true, if_false, and_true, true_and, and_false, false_and, not_true, not_false_iff, putSp_at]⟩
        · exact Or.inl ⟨by simp (disch := omega) only [putSp_at, ↓reduceIte, ↓Nat.reduceEqDiff, and_f, nt_e, nt_t, nl_t, nl_f, ne_t, ne_f, and_self, or_self, or_true, true_or, or_false, false_or, if_true, if_false, and_true, true_and, and_false, false_and, not_true, not_false_iff], by simp (disch := omega) only [mup_at, up_at, fil_at, ↓reduceIte, ↓Nat.reduceEqDiff, and_f, nt_e, nt_t, nl_t, nl_f, ne_t, ne_f, and_self, or_self, or_true, true_or, or_false, false_or, if_true, if_false, and_true, true_and, and_false, false_and, not_true, not_false_iff, hS]⟩
theorem m_logShift {M : Mem} {α : Sp} {N : Nat} (hN : 1000 = N) (kk : Mem → Option (Unit × Mem)) : f_X12_logs_L15 N (nI 56) M kk = kk (fil M 12 48 56 89 (fun j => M 12 48 (j + 3))) := by
  have key := mloopL (F := fun n x s kk => f_X12_logs_L15 n x s kk) (c := 89) 56 (fun x => fil M 12 48 56 x (fun j => M 12 48 (j + 3))) (fun m x kk hkx hx => by
    have q4 : (fil M 12 48 56 x (fun j => M 12 48 (j + 3))) 12 48 (x + 3) = M 12 48 (x + 3) := by
      rw [fil_at, if_neg (by omega)]
    rw [f_X12_logs_L15.eq_2]
    simp (disch := omega) only [lit_0, lit_1, lit_2, lit_3, lit_4, lit_5, lit_6, lit_7, lit_8, lit_9, lit_10, lit_11, lit_12, lit_13, lit_14, lit_15, lit_16, lit_20, lit_23, lit_24, lit_31, lit_32, lit_39, lit_43, lit_45, lit_47, lit_48, lit_56, lit_57, lit_59, lit_60, lit_62, lit_63, lit_89, lit_92, lit_96, lit_97, lit_99, lit_100, lit_102, lit_103, lit_104, lit_110, lit_111, lit_115, lit_117, lit_194, lit_200, lit_644, lit_736, lit_999, lit_1000, lit_9999, lit_10000, lit_1000000000, ↓wp_mlet, ↓wp_mbp, ↓wp_ite, ↓wp_mix, ↓wp_mdiv, ↓wp_mnz, ↓wp_some, ↓wp_mbnd, ↓mlet_eq, ↓mbp_eq, ↓mbnd_eq, ↓mix_ite, ↓mdiv_ite, ↓mnz_ite, nI_add, nI_mul, nI_nat, nI_ltE, nI_leE, nI_eqE, nI_eqN, nI_Neq, nI_Nlt, nI_Nle, nI_ltN, nI_leN, ↓reduceIte, ↓Nat.reduceEqDiff, and_f, nt_e, nt_t, nl_t, nl_f, ne_t, ne_f, and_self, or_self, or_true, true_or, or_false, false_or, if_true, if_false, and_true, true_and, and_false, false_and, not_true, not_false_iff, q4]
    rw [fil_s (by omega) rfl]) (fun m kk => by
    rw [f_X12_logs_L15.eq_2]
    simp (disch := omega) only [lit_0, lit_1, lit_2, lit_3, lit_4, lit_5, lit_6, lit_7, lit_8, lit_9, lit_10, lit_11, lit_12, lit_13, lit_14, lit_15, lit_16, lit_20, lit_23, lit_24, lit_31, lit_32, lit_39, lit_43, lit_45, lit_47, lit_48, lit_56, lit_57, lit_59, lit_60, lit_62, lit_63, lit_89, lit_92, lit_96, lit_97, lit_99, lit_100, lit_102, lit_103, lit_104, lit_110, lit_111, lit_115, lit_117, lit_194, lit_200, lit_644, lit_736, lit_999, lit_1000, lit_9999, lit_10000, lit_1000000000, ↓wp_mlet, ↓wp_mbp, ↓wp_ite, ↓wp_mix, ↓wp_mdiv, ↓wp_mnz, ↓wp_some, ↓wp_mbnd, ↓mlet_eq, ↓mbp_eq, ↓mbnd_eq, ↓mix_ite, ↓mdiv_ite, ↓mnz_ite, nI_add, nI_mul, nI_nat, nI_ltE, nI_leE, nI_eqE, nI_eqN, nI_Neq, nI_Nlt, nI_Nle, nI_ltN, nI_leN, ↓reduceIte, ↓Nat.reduceEqDiff, and_f, nt_e, nt_t, nl_t, nl_f, ne_t, ne_f, and_self, or_self, or_true, true_or, or_false, false_or, if_true, if_false, and_true, true_and, and_false, false_and, not_true, not_false_iff])
  have := key 33 N 56 kk (Nat.le_refl _) (by omega) (by omega)
  rw [fil_0] at this
  exact this
theorem m_logs {M : Mem} {α : Sp} {k w : Nat} (hS : M 12 48 = enc α) (h14 : α 14 ≤ 12) : wp (f_X12_logs (nI k) (nI w) M) (fun _ M1 => mS M M1 (sLog α k w)) := by
  unfold f_X12_logs
  generalize hN : (1000 : Nat) = N
  by_cases h : α 14 = 12
  · have eB : logB α = shiftSp α := by unfold logB; rw [if_pos h]
    simp (disch := omega) only [lit_0, lit_1, lit_2, lit_3, lit_4, lit_5, lit_6, lit_7, lit_8, lit_9, lit_10, lit_11, lit_12, lit_13, lit_14, lit_15, lit_16, lit_20, lit_23, lit_24, lit_31, lit_32, lit_39, lit_43, lit_45, lit_47, lit_48, lit_56, lit_57, lit_59, lit_60, lit_62, lit_63, lit_89, lit_92, lit_96, lit_97, lit_99, lit_100, lit_102, lit_103, lit_104, lit_110, lit_111, lit_115, lit_117, lit_194, lit_200, lit_644, lit_736, lit_999, lit_1000, lit_9999, lit_10000, lit_1000000000, ↓wp_mlet, ↓wp_mbp, ↓wp_ite, ↓wp_mix, ↓wp_mdiv, ↓wp_mnz, ↓wp_some, ↓wp_mbnd, ↓mlet_eq, ↓mbp_eq, ↓mbnd_eq, ↓mix_ite, ↓mdiv_ite, ↓mnz_ite, nI_add, nI_mul, nI_nat, nI_ltE, nI_leE, nI_eqE, nI_eqN, nI_Neq, nI_Nlt, nI_Nle, nI_ltN, nI_leN, ↓reduceIte, ↓Nat.reduceEqDiff, and_f, nt_e, nt_t, nl_t, nl_f, ne_t, ne_f, and_self, or_self, or_true, true_or, or_false, false_or, if_true, if_false, and_true, true_and, and_false, false_and, not_true, not_false_iff, ms_n hS, h]
    rw [m_logShift (α := α) hN]
    have hF : (mup (fil M 12 48 56 89 (fun j => M 12 48 (j + 3))) 12 48 14 (nI 11)) 12 48 = enc (shiftSp α) := by
      refine enc_ext (α := α) fun j => ?_
      by_cases q1 : j = 14
      · subst q1
        exact Or.inr ⟨by decide, by simp (disch := omega) only [mup_at, up_at, fil_at, ↓reduceIte, ↓Nat.reduceEqDiff, and_f, nt_e, nt_t, nl_t, nl_f, ne_t, ne_f, and_self, or_self, or_true, true_or, or_false, false_or, if_true, if_false, and_true, true_and, and_false, false_and, not_true, not_false_iff, shiftSp_at]⟩
      · by_cases q2 : 56 ≤ j ∧ j < 89
        · exact Or.inr ⟨by omega, by simp (disch := omega) only [mup_at, up_at, fil_at, ↓reduceIte, ↓Nat.reduceEqDiff, and_f, nt_e, nt_t, nl_t, nl_f, ne_t, ne_f, and_self, or_self, or_true, true_or, or_false, false_or, if_true, if_false, and_true, true_and, and_false, false_and, not_true, not_false_iff, shiftSp_at, ms_n hS]⟩
        · exact Or.inl ⟨by simp (disch := omega) only [shiftSp_at, ↓reduceIte, ↓Nat.reduceEqDiff, and_f, nt_e, nt_t, nl_t, nl_f, ne_t, ne_f, and_self, or_self, or_true, true_or, or_false, false_or, if_true, if_false, and_true, true_and, and_false, false_and, not_true, not_false_iff], by simp (disch := omega) only [mup_at, up_at, fil_at, ↓reduceIte, ↓Nat.reduceEqDiff, and_f, nt_e, nt_t, nl_t, nl_f, ne_t, ne_f, and_self, or_self, or_true, true_or, or_false, false_or, if_true, if_false, and_true, true_and, and_false, false_and, not_true, not_false_iff, hS]⟩
    have e14 : (fil M 12 48 56 89 (fun j => M 12 48 (j + 3))) 12 48 14 = nI 12 := by
      rw [fil_at, if_neg (by omega), ms_n hS (by decide), h]
    simp (disch := omega) only [lit_0, lit_1, lit_2, lit_3, lit_4, lit_5, lit_6, lit_7, lit_8, lit_9, lit_10, lit_11, lit_12, lit_13, lit_14, lit_15, lit_16, lit_20, lit_23, lit_24, lit_31, lit_32, lit_39, lit_43, lit_45, lit_47, lit_48, lit_56, lit_57, lit_59, lit_60, lit_62, lit_63, lit_89, lit_92, lit_96, lit_97, lit_99, lit_100, lit_102, lit_103, lit_104, lit_110, lit_111, lit_115, lit_117, lit_194, lit_200, lit_644, lit_736, lit_999, lit_1000, lit_9999, lit_10000, lit_1000000000, ↓wp_mlet, ↓wp_mbp, ↓wp_ite, ↓wp_mix, ↓wp_mdiv, ↓wp_mnz, ↓wp_some, ↓wp_mbnd, ↓mlet_eq, ↓mbp_eq, ↓mbnd_eq, ↓mix_ite, ↓mdiv_ite, ↓mnz_ite, nI_add, nI_mul, nI_nat, nI_ltE, nI_leE, nI_eqE, nI_eqN, nI_Neq, nI_Nlt, nI_Nle, nI_ltN, nI_leN, ↓reduceIte, ↓Nat.reduceEqDiff, and_f, nt_e, nt_t, nl_t, nl_f, ne_t, ne_f, and_self, or_self, or_true, true_or, or_false, false_or, if_true, if_false, and_true, true_and, and_false, false_and, not_true, not_false_iff, e14, nI_subE, Nat.reduceSub]
    have q14 : shiftSp α 14 = 11 := by rw [shiftSp_at, if_pos rfl]
    have q11 : shiftSp α 11 = α 11 := by rw [shiftSp_at, if_neg (by decide), if_neg (by decide)]
    have key := m_logTail (k := k) (w := w) hF (by rw [q14]; decide)
    rw [q14, q11] at key
    simp (disch := omega) only [lit_0, lit_1, lit_2, lit_3, lit_4, lit_5, lit_6, lit_7, lit_8, lit_9, lit_10, lit_11, lit_12, lit_13, lit_14, lit_15, lit_16, lit_20, lit_23, lit_24, lit_31, lit_32, lit_39, lit_43, lit_45, lit_47, lit_48, lit_56, lit_57, lit_59, lit_60, lit_62, lit_63, lit_89, lit_92, lit_96, lit_97, lit_99, lit_100, lit_102, lit_103, lit_104, lit_110, lit_111, lit_115, lit_117, lit_194, lit_200, lit_644, lit_736, lit_999, lit_1000, lit_9999, lit_10000, lit_1000000000, ↓wp_mlet, ↓wp_mbp, ↓wp_ite, ↓wp_mix, ↓wp_mdiv, ↓wp_mnz, ↓wp_some, ↓wp_mbnd, ↓mlet_eq, ↓mbp_eq, ↓mbnd_eq, ↓mix_ite, ↓mdiv_ite, ↓mnz_ite, nI_add, nI_mul, nI_nat, nI_ltE, nI_leE, nI_eqE, nI_eqN, nI_Neq, nI_Nlt, nI_Nle, nI_ltN, nI_leN, ↓reduceIte, ↓Nat.reduceEqDiff, and_f, nt_e, nt_t, nl_t, nl_f, ne_t, ne_f, and_self, or_self, or_true, true_or, or_false, false_or, if_true, if_false, and_true, true_and, and_false, false_and, not_true, not_false_iff, mup_at, up_at, fil_at, ↓reduceIte, ↓Nat.reduceEqDiff, and_f, nt_e, nt_t, nl_t, nl_f, ne_t, ne_f, and_self, or_self, or_true, true_or, or_false, false_or, if_true, if_false, and_true, true_and, and_false, false_and, not_true, not_false_iff, ms_n hS, Nat.reduceMul]
    have st : mS M (mup (fil M 12 48 56 89 (fun j => M 12 48 (j + 3))) 12 48 14 (nI 11)) (shiftSp α) := ⟨hF, fun a b hab => by rw [pm_ne hab, fil_ne hab]⟩
    have := st.trans key
    unfold sLog
    rw [eB]
    exact this
  · have eB : logB α = α := by unfold logB; rw [if_neg h]
    simp (disch := omega) only [lit_0, lit_1, lit_2, lit_3, lit_4, lit_5, lit_6, lit_7, lit_8, lit_9, lit_10, lit_11, lit_12, lit_13, lit_14, lit_15, lit_16, lit_20, lit_23, lit_24, lit_31, lit_32, lit_39, lit_43, lit_45, lit_47, lit_48, lit_56, lit_57, lit_59, lit_60, lit_62, lit_63, lit_89, lit_92, lit_96, lit_97, lit_99, lit_100, lit_102, lit_103, lit_104, lit_110, lit_111, lit_115, lit_117, lit_194, lit_200, lit_644, lit_736, lit_999, lit_1000, lit_9999, lit_10000, lit_1000000000, ↓wp_mlet, ↓wp_mbp, ↓wp_ite, ↓wp_mix, ↓wp_mdiv, ↓wp_mnz, ↓wp_some, ↓wp_mbnd, ↓mlet_eq, ↓mbp_eq, ↓mbnd_eq, ↓mix_ite, ↓mdiv_ite, ↓mnz_ite, nI_add, nI_mul, nI_nat, nI_ltE, nI_leE, nI_eqE, nI_eqN, nI_Neq, nI_Nlt, nI_Nle, nI_ltN, nI_leN, ↓reduceIte, ↓Nat.reduceEqDiff, and_f, nt_e, nt_t, nl_t, nl_f, ne_t, ne_f, and_self, or_self, or_true, true_or, or_false, false_or, if_true, if_false, and_true, true_and, and_false, false_and, not_true, not_false_iff, mup_at, up_at, fil_at, ↓reduceIte, ↓Nat.reduceEqDiff, and_f, nt_e, nt_t, nl_t, nl_f, ne_t, ne_f, and_self, or_self, or_true, true_or, or_false, false_or, if_true, if_false, and_true, true_and, and_false, false_and, not_true, not_false_iff, ms_n hS]
    have key := m_logTail (k := k) (w := w) hS (show α 14 < 12 by omega)
    unfold sLog
    rw [eB]
    exact key
theorem c_entTail {M : Mem} {β : Sp} {k w : Nat} (hj : Rj (M 0) β) (h14 : β 14 < 12) (hk : k < 65536) : Rj ((mup (mup (mup (mup M 0 13 (β 14) (nI (β 11))) 0 14 (β 14) (nI k)) 0 15 (β 14) (nI w)) 0 12 0 (nI (β 14 + 1))) 0) (putSp β k w) := by
  obtain ⟨j0, j1, j2⟩ := hj
  refine ⟨?_, fun i hi h9 => ?_, fun i hi => ?_⟩
  · simp (disch := omega) only [mup_at, up_at, fil_at, ↓reduceIte, ↓Nat.reduceEqDiff, and_f, nt_e, nt_t, nl_t, nl_f, ne_t, ne_f, and_self, or_self, or_true, true_or, or_false, false_or, if_true, if_false, and_true, true_and, and_false, false_and, not_true, not_false_iff, putSp_at]
  · simp (disch := omega) only [putSp_at, ↓reduceIte, ↓Nat.reduceEqDiff, and_f, nt_e, nt_t, nl_t, nl_f, ne_t, ne_f, and_self, or_self, or_true, true_or, or_false, false_or, if_true, if_false, and_true, true_and, and_false, false_and, not_true, not_false_iff] at h9
    by_cases q : i = β 14
    · subst q
      refine ⟨?_, ?_, ?_⟩ <;> simp (disch := omega) only [mup_at, up_at, fil_at, ↓reduceIte, ↓Nat.reduceEqDiff, and_f, nt_e, nt_t, nl_t, nl_f, ne_t, ne_f, and_self, or_self, or_true, true_or, or_false, false_or, if_true, if_false, and_true, true_and, and_false, false_and, not_true, not_false_iff, putSp_at]
    · obtain ⟨a1, a2, a3⟩ := j1 i hi (by omega)
      refine ⟨?_, ?_, ?_⟩
      · simp (disch := omega) only [mup_at, up_at, fil_at, ↓reduceIte, ↓Nat.reduceEqDiff, and_f, nt_e, nt_t, nl_t, nl_f, ne_t, ne_f, and_self, or_self, or_true, true_or, or_false, false_or, if_true, if_false, and_true, true_and, and_false, false_and, not_true, not_false_iff, putSp_at, a1]
      · simp (disch := omega) only [mup_at, up_at, fil_at, ↓reduceIte, ↓Nat.reduceEqDiff, and_f, nt_e, nt_t, nl_t, nl_f, ne_t, ne_f, and_self, or_self, or_true, true_or, or_false, false_or, if_true, if_false, and_true, true_and, and_false, false_and, not_true, not_false_iff, putSp_at, a2]
      · simp (disch := omega) only [mup_at, up_at, fil_at, ↓reduceIte, ↓Nat.reduceEqDiff, and_f, nt_e, nt_t, nl_t, nl_f, ne_t, ne_f, and_self, or_self, or_true, true_or, or_false, false_or, if_true, if_false, and_true, true_and, and_false, false_and, not_true, not_false_iff, putSp_at, a3]
  · by_cases q : i = β 14
    · subst q
      exact ⟨k, hk, by simp (disch := omega) only [mup_at, up_at, fil_at, ↓reduceIte, ↓Nat.reduceEqDiff, and_f, nt_e, nt_t, nl_t, nl_f, ne_t, ne_f, and_self, or_self, or_true, true_or, or_false, false_or, if_true, if_false, and_true, true_and, and_false, false_and, not_true, not_false_iff]⟩
    · obtain ⟨c, c1, c2⟩ := j2 i hi
      exact ⟨c, c1, by simp (disch := omega) only [mup_at, up_at, fil_at, ↓reduceIte, ↓Nat.reduceEqDiff, and_f, nt_e, nt_t, nl_t, nl_f, ne_t, ne_f, and_self, or_self, or_true, true_or, or_false, false_or, if_true, if_false, and_true, true_and, and_false, false_and, not_true, not_false_iff, c2]⟩
def dropM (M : Mem) : Mem := mcp (mcp (mcp (mup M 0 12 0 (nI 11)) 0 13 0 13 1 0 11) 0 14 0 14 1 0 11) 0 15 0 15 1 0 11
theorem c_drop {M : Mem} {α : Sp} (hj : Rj (M 0) α) (h : α 14 = 12) (Q : Unit → Mem → Prop) : wp (f_X5_dropOldest 0 M) Q = Q () (dropM M) := by
  obtain ⟨j0, j1, j2⟩ := hj
  unfold f_X5_dropOldest
  simp (disch := omega) only [lit_0, lit_1, lit_2, lit_3, lit_4, lit_5, lit_6, lit_7, lit_8, lit_9, lit_10, lit_11, lit_12, lit_13, lit_14, lit_15, lit_16, lit_20, lit_23, lit_24, lit_31, lit_32, lit_39, lit_43, lit_45, lit_47, lit_48, lit_56, lit_57, lit_59, lit_60, lit_62, lit_63, lit_89, lit_92, lit_96, lit_97, lit_99, lit_100, lit_102, lit_103, lit_104, lit_110, lit_111, lit_115, lit_117, lit_194, lit_200, lit_644, lit_736, lit_999, lit_1000, lit_9999, lit_10000, lit_1000000000, ↓wp_mlet, ↓wp_mbp, ↓wp_ite, ↓wp_mix, ↓wp_mdiv, ↓wp_mnz, ↓wp_some, ↓wp_mbnd, ↓mlet_eq, ↓mbp_eq, ↓mbnd_eq, ↓mix_ite, ↓mdiv_ite, ↓mnz_ite, nI_add, nI_mul, nI_nat, nI_ltE, nI_leE, nI_eqE, nI_eqN, nI_Neq, nI_Nlt, nI_Nle, nI_ltN, nI_leN, ↓reduceIte, ↓Nat.reduceEqDiff, and_f, nt_e, nt_t, nl_t, nl_f, ne_t, ne_f, and_self, or_self, or_true, true_or, or_false, false_or, if_true, if_false, and_true, true_and, and_false, false_and, not_true, not_false_iff, j0, h, nI_subE, Nat.reduceSub]
  have a0 : (mup M 0 12 0 (nI 11)) 0 12 0 = nI 11 := by rw [mup_at, if_pos (by decide)]
  rw [a0, wp_mcpy (by decide) (by decide) (by decide) (fun j hj => rfl)]
  have a1 : (mcp (mup M 0 12 0 (nI 11)) 0 13 0 13 1 0 11) 0 12 0 = nI 11 := by rw [mcp_at, if_neg (by decide), a0]
  rw [a1, wp_mcpy (by decide) (by decide) (by decide) (fun j hj => by
    obtain ⟨c, c1, c2⟩ := j2 (1 + j) (by omega)
    rw [mcp_at, if_neg (by decide), mup_at, if_neg (by omega), c2]
    exact fits_char c1)]
  have a2 : (mcp (mcp (mup M 0 12 0 (nI 11)) 0 13 0 13 1 0 11) 0 14 0 14 1 0 11) 0 12 0 = nI 11 := by rw [mcp_at, if_neg (by decide), a1]
  rw [a2, wp_mcpy (by decide) (by decide) (by decide) (fun j hj => rfl), wp_some]
  rfl
theorem dropM_Rj {M : Mem} {α : Sp} (hj : Rj (M 0) α) (h : α 14 = 12) : Rj ((dropM M) 0) (shiftSp α) := by
  obtain ⟨j0, j1, j2⟩ := hj
  unfold dropM
  refine ⟨?_, fun i hi h9 => ?_, fun i hi => ?_⟩
  · simp (disch := omega) only [mcp_at, mup_at, up_at, fil_at, ↓reduceIte, ↓Nat.reduceEqDiff, and_f, nt_e, nt_t, nl_t, nl_f, ne_t, ne_f, and_self, or_self, or_true, true_or, or_false, false_or, if_true, if_false, and_true, true_and, and_false, false_and, not_true, not_false_iff, shiftSp_at]
  · simp (disch := omega) only [shiftSp_at, ↓reduceIte, ↓Nat.reduceEqDiff, and_f, nt_e, nt_t, nl_t, nl_f, ne_t, ne_f, and_self, or_self, or_true, true_or, or_false, false_or, if_true, if_false, and_true, true_and, and_false, false_and, not_true, not_false_iff] at h9
    obtain ⟨a1, a2, a3⟩ := j1 (i + 1) (by omega) (by omega)
    have e : 1 + (i - 0) = i + 1 := by omega
    refine ⟨?_, ?_, ?_⟩
    · simp (disch := omega) only [mcp_at, mup_at, up_at, fil_at, ↓reduceIte, ↓Nat.reduceEqDiff, and_f, nt_e, nt_t, nl_t, nl_f, ne_t, ne_f, and_self, or_self, or_true, true_or, or_false, false_or, if_true, if_false, and_true, true_and, and_false, false_and, not_true, not_false_iff, shiftSp_at, e, a1]
      rfl
    · simp (disch := omega) only [mcp_at, mup_at, up_at, fil_at, ↓reduceIte, ↓Nat.reduceEqDiff, and_f, nt_e, nt_t, nl_t, nl_f, ne_t, ne_f, and_self, or_self, or_true, true_or, or_false, false_or, if_true, if_false, and_true, true_and, and_false, false_and, not_true, not_false_iff, shiftSp_at, e, a2]
      rfl
    · simp (disch := omega) only [mcp_at, mup_at, up_at, fil_at, ↓reduceIte, ↓Nat.reduceEqDiff, and_f, nt_e, nt_t, nl_t, nl_f, ne_t, ne_f, and_self, or_self, or_true, true_or, or_false, false_or, if_true, if_false, and_true, true_and, and_false, false_and, not_true, not_false_iff, shiftSp_at, e, a3]
      rfl
  · by_cases q : i < 11
    · obtain ⟨c, c1, c2⟩ := j2 (i + 1) (by omega)
      have e : 1 + (i - 0) = i + 1 := by omega
      exact ⟨c, c1, by simp (disch := omega) only [mcp_at, mup_at, up_at, fil_at, ↓reduceIte, ↓Nat.reduceEqDiff, and_f, nt_e, nt_t, nl_t, nl_f, ne_t, ne_f, and_self, or_self, or_true, true_or, or_false, false_or, if_true, if_false, and_true, true_and, and_false, false_and, not_true, not_false_iff, e, c2]⟩
    · obtain ⟨c, c1, c2⟩ := j2 i hi
      exact ⟨c, c1, by simp (disch := omega) only [mcp_at, mup_at, up_at, fil_at, ↓reduceIte, ↓Nat.reduceEqDiff, and_f, nt_e, nt_t, nl_t, nl_f, ne_t, ne_f, and_self, or_self, or_true, true_or, or_false, false_or, if_true, if_false, and_true, true_and, and_false, false_and, not_true, not_false_iff, c2]⟩
theorem dropM_i {M : Mem} {i : Nat} (hi : ¬ (12 ≤ i ∧ i ≤ 15)) : (dropM M) 0 i = M 0 i := by
  unfold dropM
  funext c
  simp (disch := omega) only [mcp_at, mup_at, up_at, fil_at, ↓reduceIte, ↓Nat.reduceEqDiff, and_f, nt_e, nt_t, nl_t, nl_f, ne_t, ne_f, and_self, or_self, or_true, true_or, or_false, false_or, if_true, if_false, and_true, true_and, and_false, false_and, not_true, not_false_iff]
theorem dropM_g {M : Mem} {a : Nat} (ha : a ≠ 0) : (dropM M) a = M a := by
  unfold dropM
  rw [pc_g ha, pc_g ha, pc_g ha, pm_g ha]
theorem c_enter {M : Mem} {α : Sp} {k w : Nat} (hj : Rj (M 0) α) (h14 : α 14 ≤ 12) (hk : k < 65536) : wp (f_X5_enter 0 (nI (α 11)) (nI k) (nI w) M) (fun _ M1 => Rj (M1 0) (sLog α k w) ∧ (∀ i, ¬ (12 ≤ i ∧ i ≤ 15) → M1 0 i = M 0 i) ∧ ∀ a, a ≠ 0 → M1 a = M a) := by
  unfold f_X5_enter
  have j0 := hj.1
  by_cases h : α 14 = 12
  · have eB : logB α = shiftSp α := by unfold logB; rw [if_pos h]
    have hD := dropM_Rj hj h
    have d0 := hD.1
    have q14 : shiftSp α 14 = 11 := by rw [shiftSp_at, if_pos rfl]
    have q11 : shiftSp α 11 = α 11 := by rw [shiftSp_at, if_neg (by decide), if_neg (by decide)]
    rw [q14] at d0
    have key := c_entTail (k := k) (w := w) hD (by rw [q14]; decide) hk
    rw [q14, q11] at key
    simp (disch := omega) only [lit_0, lit_1, lit_2, lit_3, lit_4, lit_5, lit_6, lit_7, lit_8, lit_9, lit_10, lit_11, lit_12, lit_13, lit_14, lit_15, lit_16, lit_20, lit_23, lit_24, lit_31, lit_32, lit_39, lit_43, lit_45, lit_47, lit_48, lit_56, lit_57, lit_59, lit_60, lit_62, lit_63, lit_89, lit_92, lit_96, lit_97, lit_99, lit_100, lit_102, lit_103, lit_104, lit_110, lit_111, lit_115, lit_117, lit_194, lit_200, lit_644, lit_736, lit_999, lit_1000, lit_9999, lit_10000, lit_1000000000, ↓wp_mlet, ↓wp_mbp, ↓wp_ite, ↓wp_mix, ↓wp_mdiv, ↓wp_mnz, ↓wp_some, ↓wp_mbnd, ↓mlet_eq, ↓mbp_eq, ↓mbnd_eq, ↓mix_ite, ↓mdiv_ite, ↓mnz_ite, nI_add, nI_mul, nI_nat, nI_ltE, nI_leE, nI_eqE, nI_eqN, nI_Neq, nI_Nlt, nI_Nle, nI_ltN, nI_leN, ↓reduceIte, ↓Nat.reduceEqDiff, and_f, nt_e, nt_t, nl_t, nl_f, ne_t, ne_f, and_self, or_self, or_true, true_or, or_false, false_or, if_true, if_false, and_true, true_and, and_false, false_and, not_true, not_false_iff, j0, h]
    rw [c_drop hj h]
    simp (disch := omega) only [lit_0, lit_1, lit_2, lit_3, lit_4, lit_5, lit_6, lit_7, lit_8, lit_9, lit_10, lit_11, lit_12, lit_13, lit_14, lit_15, lit_16, lit_20, lit_23, lit_24, lit_31, lit_32, lit_39, lit_43, lit_45, lit_47, lit_48, lit_56, lit_57, lit_59, lit_60, lit_62, lit_63, lit_89, lit_92, lit_96, lit_97, lit_99, lit_100, lit_102, lit_103, lit_104, lit_110, lit_111, lit_115, lit_117, lit_194, lit_200, lit_644, lit_736, lit_999, lit_1000, lit_9999, lit_10000, lit_1000000000, ↓wp_mlet, ↓wp_mbp, ↓wp_ite, ↓wp_mix, ↓wp_mdiv, ↓wp_mnz, ↓wp_some, ↓wp_mbnd, ↓mlet_eq, ↓mbp_eq, ↓mbnd_eq, ↓mix_ite, ↓mdiv_ite, ↓mnz_ite, nI_add, nI_mul, nI_nat, nI_ltE, nI_leE, nI_eqE, nI_eqN, nI_Neq, nI_Nlt, nI_Nle, nI_ltN, nI_leN, ↓reduceIte, ↓Nat.reduceEqDiff, and_f, nt_e, nt_t, nl_t, nl_f, ne_t, ne_f, and_self, or_self, or_true, true_or, or_false, false_or, if_true, if_false, and_true, true_and, and_false, false_and, not_true, not_false_iff, mup_at, up_at, fil_at, ↓reduceIte, ↓Nat.reduceEqDiff, and_f, nt_e, nt_t, nl_t, nl_f, ne_t, ne_f, and_self, or_self, or_true, true_or, or_false, false_or, if_true, if_false, and_true, true_and, and_false, false_and, not_true, not_false_iff, d0, vnar_char]
    unfold sLog
    rw [eB]
    refine ⟨key, fun i hi => ?_, fun a ha => ?_⟩
    · rw [pm_ne (by omega), pm_ne (by omega), pm_ne (by omega), pm_ne (by omega), dropM_i hi]
    · rw [pm_g ha, pm_g ha, pm_g ha, pm_g ha, dropM_g ha]
  · have eB : logB α = α := by unfold logB; rw [if_neg h]
    have key := c_entTail (k := k) (w := w) hj (by omega) hk
    simp (disch := omega) only [lit_0, lit_1, lit_2, lit_3, lit_4, lit_5, lit_6, lit_7, lit_8, lit_9, lit_10, lit_11, lit_12, lit_13, lit_14, lit_15, lit_16, lit_20, lit_23, lit_24, lit_31, lit_32, lit_39, lit_43, lit_45, lit_47, lit_48, lit_56, lit_57, lit_59, lit_60, lit_62, lit_63, lit_89, lit_92, lit_96, lit_97, lit_99, lit_100, lit_102, lit_103, lit_104, lit_110, lit_111, lit_115, lit_117, lit_194, lit_200, lit_644, lit_736, lit_999, lit_1000, lit_9999, lit_10000, lit_1000000000, ↓wp_mlet, ↓wp_mbp, ↓wp_ite, ↓wp_mix, ↓wp_mdiv, ↓wp_mnz, ↓wp_some, ↓wp_mbnd, ↓mlet_eq, ↓mbp_eq, ↓mbnd_eq, ↓mix_ite, ↓mdiv_ite, ↓mnz_ite, nI_add, nI_mul, nI_nat, nI_ltE, nI_leE, nI_eqE, nI_eqN, nI_Neq, nI_Nlt, nI_Nle, nI_ltN, nI_leN, ↓reduceIte, ↓Nat.reduceEqDiff, and_f, nt_e, nt_t, nl_t, nl_f, ne_t, ne_f, and_self, or_self, or_true, true_or, or_false, false_or, if_true, if_false, and_true, true_and, and_false, false_and, not_true, not_false_iff, mup_at, up_at, fil_at, ↓reduceIte, ↓Nat.reduceEqDiff, and_f, nt_e, nt_t, nl_t, nl_f, ne_t, ne_f, and_self, or_self, or_true, true_or, or_false, false_or, if_true, if_false, and_true, true_and, and_false, false_and, not_true, not_false_iff, j0, vnar_char]
    unfold sLog
    rw [eB]
    refine ⟨key, fun i hi => ?_, fun a ha => ?_⟩
    · rw [pm_ne (by omega), pm_ne (by omega), pm_ne (by omega), pm_ne (by omega)]
    · rw [pm_g ha, pm_g ha, pm_g ha, pm_g ha]
/-! AN HOUR: the guards walk -/
def incSp (α : Sp) : Sp := up α 11 (α 11 + 1)
def walkZ (β : Sp) (g : Nat) : Nat := if β 11 % β (49 + 3 * g) = 0 then (β (47 + 3 * g) + (if β (48 + 3 * g) = 1 then 1 else 7)) % 8 else β (47 + 3 * g)
def walkTo (β : Sp) (x : Nat) : Sp := fun j => if 47 ≤ j ∧ j < 47 + 3 * x ∧ (j - 47) % 3 = 0 then walkZ β ((j - 47) / 3) else β j
theorem walkTo_at (β : Sp) (x j : Nat) : walkTo β x j = if 47 ≤ j ∧ j < 47 + 3 * x ∧ (j - 47) % 3 = 0 then walkZ β ((j - 47) / 3) else β j := Eq.trans rfl rfl
def walkSp (α : Sp) : Sp := walkTo (incSp α) (α 10)
theorem walkTo_ne {β : Sp} {x j : Nat} (h : ¬ (47 ≤ j ∧ j < 47 + 3 * x ∧ (j - 47) % 3 = 0)) : walkTo β x j = β j := by rw [walkTo_at, if_neg h]
theorem walkTo_0 (β : Sp) : walkTo β 0 = β := by
  funext j
  exact walkTo_ne (by omega)
theorem walkTo_z {β : Sp} {x g : Nat} (h : g < x) : walkTo β x (47 + 3 * g) = walkZ β g := by
  rw [walkTo_at, if_pos (by omega), show (47 + 3 * g - 47) / 3 = g by omega]
theorem walkTo_s {β : Sp} {x : Nat} : up (walkTo β x) (47 + 3 * x) (walkZ β x) = walkTo β (x + 1) := by
  funext j
  rw [up_at]
  by_cases h : j = 47 + 3 * x
  · subst h
    rw [if_pos rfl, walkTo_z (Nat.lt_succ_self x)]
  · rw [if_neg h, walkTo_at, walkTo_at]
    by_cases q : 47 ≤ j ∧ j < 47 + 3 * x ∧ (j - 47) % 3 = 0
    · rw [if_pos q, if_pos (by omega)]
    · rw [if_neg q, if_neg (by omega)]
theorem walkTo_n {β : Sp} {x : Nat} (h : ¬ β 11 % β (49 + 3 * x) = 0) : walkTo β x = walkTo β (x + 1) := by
  rw [← walkTo_s]
  funext j
  rw [up_at]
  by_cases q : j = 47 + 3 * x
  · subst q
    rw [if_pos rfl, walkTo_ne (by omega)]
    unfold walkZ
    rw [if_neg h]
  · rw [if_neg q]
/-- what is known of guards -/
def Gd (β : Sp) : Prop := β 10 ≤ 3 ∧ β 11 < 1000000 ∧ ∀ k, k < β 10 → β (47 + 3 * k) ≤ 7 ∧ 1 ≤ β (48 + 3 * k) ∧ β (48 + 3 * k) ≤ 2 ∧ 1 ≤ β (49 + 3 * k) ∧ β (49 + 3 * k) ≤ 4
theorem mS.of_up {M M1 : Mem} {β : Sp} {k v : Nat} (hk : ¬ (k = 48 ∨ k = 51 ∨ k = 54)) (h : mS M M1 β) : mS M (mup M1 12 48 k (nI v)) (up β k v) := ⟨by rw [pm_self, h.1, enc_up hk], fun a b hab => by rw [pm_ne hab, h.2 a b hab]⟩
theorem m_walk {M : Mem} {β : Sp} {N : Nat} (hN : 1000 = N) (hS : M 12 48 = enc β) (hg : Gd β) (kk : Mem → Option (Int32 × Mem)) : ∃ M1, mS M M1 (walkTo β (β 10)) ∧ f_X12_oneHour_L13 N (nI 0) M kk = kk M1 := by
  obtain ⟨g0, g1, g2⟩ := hg
  refine mloopP (F := fun n x s kk => f_X12_oneHour_L13 n x s kk) (c := β 10) (fun x M1 => mS M M1 (walkTo β x)) (fun n x M1 kk hx h => ?_) (fun n M1 kk h => ?_) (β 10) N 0 M kk (by omega) (by omega) ⟨by rw [walkTo_0]; exact hS, fun _ _ _ => rfl⟩
  · obtain ⟨p1, p2, p3, p4, p5⟩ := g2 x hx
    have hm : β 11 % β (49 + 3 * x) < 1000000 := Nat.lt_of_le_of_lt (Nat.mod_le _ _) g1
    have e10 : M1 12 48 10 = nI (β 10) := by rw [ms_n h.1 (by decide), walkTo_ne (by omega)]
    have e11 : M1 12 48 11 = nI (β 11) := by rw [ms_n h.1 (by decide), walkTo_ne (by omega)]
    have ep : f_X12_guard (nI x) (nI 2) M1 = some (nI (β (49 + 3 * x))) := by rw [m_guard2 h.1 (by omega), walkTo_ne (by omega)]
    have ez : f_X12_guard (nI x) (nI 0) M1 = some (nI (β (47 + 3 * x))) := by rw [m_guard0 h.1 (by omega), walkTo_ne (by omega)]
    have ew : f_X12_guard (nI x) (nI 1) M1 = some (enc β (48 + 3 * x)) := by
      rw [m_guard h.1 (by omega) (by decide), show 47 + 3 * x + 1 = 48 + 3 * x by omega]
      unfold enc
      rw [walkTo_ne (by omega)]
    by_cases hd : β 11 % β (49 + 3 * x) = 0
    · refine ⟨mup M1 12 48 (47 + 3 * x) (nI (walkZ β x)), by rw [← walkTo_s]; exact h.of_up (by omega), ?_⟩
      show f_X12_oneHour_L13 (n + 1) (nI x) M1 kk = f_X12_oneHour_L13 n (nI (x + 1)) _ kk
      rw [f_X12_oneHour_L13.eq_2]
      have hz : (if β 11 % β (49 + 3 * x) = 0 then (β (47 + 3 * x) + (if β (48 + 3 * x) = 1 then 1 else 7)) % 8 else β (47 + 3 * x)) = walkZ β x := rfl
      rw [if_pos hd] at hz
      by_cases hw : β (48 + 3 * x) = 1
      · have e1 : enc β (48 + 3 * x) = nI 1 := by rw [enc_n2 (by omega), hw]
        rw [if_pos hw] at hz
        have hz2 : (β (47 + 3 * x) + 1 + 8) % 8 = walkZ β x := by omega
        simp (disch := omega) only [lit_0, lit_1, lit_2, lit_3, lit_4, lit_5, lit_6, lit_7, lit_8, lit_9, lit_10, lit_11, lit_12, lit_13, lit_14, lit_15, lit_16, lit_20, lit_23, lit_24, lit_31, lit_32, lit_39, lit_43, lit_45, lit_47, lit_48, lit_56, lit_57, lit_59, lit_60, lit_62, lit_63, lit_89, lit_92, lit_96, lit_97, lit_99, lit_100, lit_102, lit_103, lit_104, lit_110, lit_111, lit_115, lit_117, lit_194, lit_200, lit_644, lit_736, lit_999, lit_1000, lit_9999, lit_10000, lit_1000000000, ↓wp_mlet, ↓wp_mbp, ↓wp_ite, ↓wp_mix, ↓wp_mdiv, ↓wp_mnz, ↓wp_some, ↓wp_mbnd, ↓mlet_eq, ↓mbp_eq, ↓mbnd_eq, ↓mix_ite, ↓mdiv_ite, ↓mnz_ite, nI_add, nI_mul, nI_nat, nI_ltE, nI_leE, nI_eqE, nI_eqN, nI_Neq, nI_Nlt, nI_Nle, nI_ltN, nI_leN, ↓reduceIte, ↓Nat.reduceEqDiff, and_f, nt_e, nt_t, nl_t, nl_f, ne_t, ne_f, and_self, or_self, or_true, true_or, or_false, false_or, if_true, if_false, and_true, true_and, and_false, false_and, not_true, not_false_iff, e10, e11, ep, nI_rem, hd, ez, ew, e1, hz2]
      · have e1 : enc β (48 + 3 * x) = -nI 1 := enc_2 (by omega) (by omega)
        rw [if_neg hw] at hz
        have hz2 : (β (47 + 3 * x) + 8 - 1) % 8 = walkZ β x := by omega
        have e2 : nI (β (47 + 3 * x)) + -nI 1 + nI 8 = nI (β (47 + 3 * x) + 8 - 1) := by
          rw [← Int32.sub_eq_add_neg]
          exact nI_sub_add (by omega)
        simp (disch := omega) only [lit_0, lit_1, lit_2, lit_3, lit_4, lit_5, lit_6, lit_7, lit_8, lit_9, lit_10, lit_11, lit_12, lit_13, lit_14, lit_15, lit_16, lit_20, lit_23, lit_24, lit_31, lit_32, lit_39, lit_43, lit_45, lit_47, lit_48, lit_56, lit_57, lit_59, lit_60, lit_62, lit_63, lit_89, lit_92, lit_96, lit_97, lit_99, lit_100, lit_102, lit_103, lit_104, lit_110, lit_111, lit_115, lit_117, lit_194, lit_200, lit_644, lit_736, lit_999, lit_1000, lit_9999, lit_10000, lit_1000000000, ↓wp_mlet, ↓wp_mbp, ↓wp_ite, ↓wp_mix, ↓wp_mdiv, ↓wp_mnz, ↓wp_some, ↓wp_mbnd, ↓mlet_eq, ↓mbp_eq, ↓mbnd_eq, ↓mix_ite, ↓mdiv_ite, ↓mnz_ite, nI_add, nI_mul, nI_nat, nI_ltE, nI_leE, nI_eqE, nI_eqN, nI_Neq, nI_Nlt, nI_Nle, nI_ltN, nI_leN, ↓reduceIte, ↓Nat.reduceEqDiff, and_f, nt_e, nt_t, nl_t, nl_f, ne_t, ne_f, and_self, or_self, or_true, true_or, or_false, false_or, if_true, if_false, and_true, true_and, and_false, false_and, not_true, not_false_iff, e10, e11, ep, nI_rem, hd, ez, ew, e1, e2, hz2]
    · refine ⟨M1, by rw [← walkTo_n hd]; exact h, ?_⟩
      show f_X12_oneHour_L13 (n + 1) (nI x) M1 kk = f_X12_oneHour_L13 n (nI (x + 1)) _ kk
      rw [f_X12_oneHour_L13.eq_2]
      simp (disch := omega) only [lit_0, lit_1, lit_2, lit_3, lit_4, lit_5, lit_6, lit_7, lit_8, lit_9, lit_10, lit_11, lit_12, lit_13, lit_14, lit_15, lit_16, lit_20, lit_23, lit_24, lit_31, lit_32, lit_39, lit_43, lit_45, lit_47, lit_48, lit_56, lit_57, lit_59, lit_60, lit_62, lit_63, lit_89, lit_92, lit_96, lit_97, lit_99, lit_100, lit_102, lit_103, lit_104, lit_110, lit_111, lit_115, lit_117, lit_194, lit_200, lit_644, lit_736, lit_999, lit_1000, lit_9999, lit_10000, lit_1000000000, ↓wp_mlet, ↓wp_mbp, ↓wp_ite, ↓wp_mix, ↓wp_mdiv, ↓wp_mnz, ↓wp_some, ↓wp_mbnd, ↓mlet_eq, ↓mbp_eq, ↓mbnd_eq, ↓mix_ite, ↓mdiv_ite, ↓mnz_ite, nI_add, nI_mul, nI_nat, nI_ltE, nI_leE, nI_eqE, nI_eqN, nI_Neq, nI_Nlt, nI_Nle, nI_ltN, nI_leN, ↓reduceIte, ↓Nat.reduceEqDiff, and_f, nt_e, nt_t, nl_t, nl_f, ne_t, ne_f, and_self, or_self, or_true, true_or, or_false, false_or, if_true, if_false, and_true, true_and, and_false, false_and, not_true, not_false_iff, e10, e11, ep, nI_rem, hd]
  · have e10 : M1 12 48 10 = nI (β 10) := by rw [ms_n h.1 (by decide), walkTo_ne (by omega)]
    show f_X12_oneHour_L13 (n + 1) (nI (β 10)) M1 kk = kk M1
    rw [f_X12_oneHour_L13.eq_2]
    simp (disch := omega) only [lit_0, lit_1, lit_2, lit_3, lit_4, lit_5, lit_6, lit_7, lit_8, lit_9, lit_10, lit_11, lit_12, lit_13, lit_14, lit_15, lit_16, lit_20, lit_23, lit_24, lit_31, lit_32, lit_39, lit_43, lit_45, lit_47, lit_48, lit_56, lit_57, lit_59, lit_60, lit_62, lit_63, lit_89, lit_92, lit_96, lit_97, lit_99, lit_100, lit_102, lit_103, lit_104, lit_110, lit_111, lit_115, lit_117, lit_194, lit_200, lit_644, lit_736, lit_999, lit_1000, lit_9999, lit_10000, lit_1000000000, ↓wp_mlet, ↓wp_mbp, ↓wp_ite, ↓wp_mix, ↓wp_mdiv, ↓wp_mnz, ↓wp_some, ↓wp_mbnd, ↓mlet_eq, ↓mbp_eq, ↓mbnd_eq, ↓mix_ite, ↓mdiv_ite, ↓mnz_ite, nI_add, nI_mul, nI_nat, nI_ltE, nI_leE, nI_eqE, nI_eqN, nI_Neq, nI_Nlt, nI_Nle, nI_ltN, nI_leN, ↓reduceIte, ↓Nat.reduceEqDiff, and_f, nt_e, nt_t, nl_t, nl_f, ne_t, ne_f, and_self, or_self, or_true, true_or, or_false, false_or, if_true, if_false, and_true, true_and, and_false, false_and, not_true, not_false_iff, e10]
/-- the class's guards walk -/
theorem c_walk {M : Mem} {β : Sp} {g N : Nat} (hN : 1000 = N) (hb : Rb (M g) β) (hg : Gd β) (kk : Mem → Option (Unit × Mem)) : ∃ M1, (Rb (M1 g) (walkTo β (β 10)) ∧ (∀ i, i ≠ 9 → M1 g i = M g i) ∧ ∀ a, a ≠ g → M1 a = M a) ∧ f_X1_beginHour_L12 g N (nI 0) M kk = kk M1 := by
  obtain ⟨g0, g1, g2⟩ := hg
  refine mloopP (F := fun n x s kk => f_X1_beginHour_L12 g n x s kk) (c := β 10) (fun x M1 => Rb (M1 g) (walkTo β x) ∧ (∀ i, i ≠ 9 → M1 g i = M g i) ∧ ∀ a, a ≠ g → M1 a = M a) (fun n x M1 kk hx h => ?_) (fun n M1 kk h => ?_) (β 10) N 0 M kk (by omega) (by omega) ⟨by rw [walkTo_0]; exact hb, fun _ _ => rfl, fun _ _ => rfl⟩
  · obtain ⟨hR, hi, ha⟩ := h
    obtain ⟨p1, p2, p3, p4, p5⟩ := g2 x hx
    have hm : β 11 % β (49 + 3 * x) < 1000000 := Nat.lt_of_le_of_lt (Nat.mod_le _ _) g1
    obtain ⟨r0, r3, r4, r5, r6, r7, r8⟩ := id hR
    have e10 : M1 g 6 4 = nI (β 10) := by rw [r4, walkTo_ne (by omega)]
    have e11 : M1 g 6 0 = nI (β 11) := by rw [r0, walkTo_ne (by omega)]
    obtain ⟨q1, q2, q3⟩ := r7 x (by omega) (by rw [walkTo_ne (by omega)]; exact hx)
    rw [walkTo_ne (by omega)] at q1 q2 q3
    by_cases hd : β 11 % β (49 + 3 * x) = 0
    · refine ⟨mup M1 g 9 x (nI (walkZ β x)), ⟨?_, ?_, ?_⟩, ?_⟩
      · rw [← walkTo_s]
        refine ⟨?_, ?_, ?_, fun k hk => ?_, fun k hk => ?_, fun k hk hk9 => ?_, fun k hk => ?_⟩
        · simp (disch := omega) only [mup_at, up_at, fil_at, ↓reduceIte, ↓Nat.reduceEqDiff, and_f, nt_e, nt_t, nl_t, nl_f, ne_t, ne_f, and_self, or_self, or_true, true_or, or_false, false_or, if_true, if_false, and_true, true_and, and_false, false_and, not_true, not_false_iff, r0]
        · simp (disch := omega) only [mup_at, up_at, fil_at, ↓reduceIte, ↓Nat.reduceEqDiff, and_f, nt_e, nt_t, nl_t, nl_f, ne_t, ne_f, and_self, or_self, or_true, true_or, or_false, false_or, if_true, if_false, and_true, true_and, and_false, false_and, not_true, not_false_iff, r3]
        · simp (disch := omega) only [mup_at, up_at, fil_at, ↓reduceIte, ↓Nat.reduceEqDiff, and_f, nt_e, nt_t, nl_t, nl_f, ne_t, ne_f, and_self, or_self, or_true, true_or, or_false, false_or, if_true, if_false, and_true, true_and, and_false, false_and, not_true, not_false_iff, r4]
        · simp (disch := omega) only [mup_at, up_at, fil_at, ↓reduceIte, ↓Nat.reduceEqDiff, and_f, nt_e, nt_t, nl_t, nl_f, ne_t, ne_f, and_self, or_self, or_true, true_or, or_false, false_or, if_true, if_false, and_true, true_and, and_false, false_and, not_true, not_false_iff, r5 k hk]
        · simp (disch := omega) only [mup_at, up_at, fil_at, ↓reduceIte, ↓Nat.reduceEqDiff, and_f, nt_e, nt_t, nl_t, nl_f, ne_t, ne_f, and_self, or_self, or_true, true_or, or_false, false_or, if_true, if_false, and_true, true_and, and_false, false_and, not_true, not_false_iff, r6 k hk]
        · simp (disch := omega) only [mup_at, up_at, fil_at, ↓reduceIte, ↓Nat.reduceEqDiff, and_f, nt_e, nt_t, nl_t, nl_f, ne_t, ne_f, and_self, or_self, or_true, true_or, or_false, false_or, if_true, if_false, and_true, true_and, and_false, false_and, not_true, not_false_iff] at hk9
          have q := r7 k hk hk9
          by_cases hk' : k = x
          · subst hk'
            refine ⟨?_, ?_, ?_⟩
            · simp (disch := omega) only [mup_at, up_at, fil_at, ↓reduceIte, ↓Nat.reduceEqDiff, and_f, nt_e, nt_t, nl_t, nl_f, ne_t, ne_f, and_self, or_self, or_true, true_or, or_false, false_or, if_true, if_false, and_true, true_and, and_false, false_and, not_true, not_false_iff]
            · simp (disch := omega) only [mup_at, up_at, fil_at, ↓reduceIte, ↓Nat.reduceEqDiff, and_f, nt_e, nt_t, nl_t, nl_f, ne_t, ne_f, and_self, or_self, or_true, true_or, or_false, false_or, if_true, if_false, and_true, true_and, and_false, false_and, not_true, not_false_iff, q.2.1]
            · simp (disch := omega) only [mup_at, up_at, fil_at, ↓reduceIte, ↓Nat.reduceEqDiff, and_f, nt_e, nt_t, nl_t, nl_f, ne_t, ne_f, and_self, or_self, or_true, true_or, or_false, false_or, if_true, if_false, and_true, true_and, and_false, false_and, not_true, not_false_iff, q.2.2]
          · refine ⟨?_, ?_, ?_⟩
            · simp (disch := omega) only [mup_at, up_at, fil_at, ↓reduceIte, ↓Nat.reduceEqDiff, and_f, nt_e, nt_t, nl_t, nl_f, ne_t, ne_f, and_self, or_self, or_true, true_or, or_false, false_or, if_true, if_false, and_true, true_and, and_false, false_and, not_true, not_false_iff, q.1]
            · simp (disch := omega) only [mup_at, up_at, fil_at, ↓reduceIte, ↓Nat.reduceEqDiff, and_f, nt_e, nt_t, nl_t, nl_f, ne_t, ne_f, and_self, or_self, or_true, true_or, or_false, false_or, if_true, if_false, and_true, true_and, and_false, false_and, not_true, not_false_iff, q.2.1]
            · simp (disch := omega) only [mup_at, up_at, fil_at, ↓reduceIte, ↓Nat.reduceEqDiff, and_f, nt_e, nt_t, nl_t, nl_f, ne_t, ne_f, and_self, or_self, or_true, true_or, or_false, false_or, if_true, if_false, and_true, true_and, and_false, false_and, not_true, not_false_iff, q.2.2]
        · obtain ⟨c, c1, c2⟩ := r8 k hk
          exact ⟨c, c1, by simp (disch := omega) only [mup_at, up_at, fil_at, ↓reduceIte, ↓Nat.reduceEqDiff, and_f, nt_e, nt_t, nl_t, nl_f, ne_t, ne_f, and_self, or_self, or_true, true_or, or_false, false_or, if_true, if_false, and_true, true_and, and_false, false_and, not_true, not_false_iff, c2]⟩
      · intro i h9
        rw [pm_ne (by omega)]
        exact hi i h9
      · intro a hne
        rw [pm_g hne]
        exact ha a hne
      · show f_X1_beginHour_L12 g (n + 1) (nI x) M1 kk = f_X1_beginHour_L12 g n (nI (x + 1)) _ kk
        rw [f_X1_beginHour_L12.eq_2]
        have hz : (if β 11 % β (49 + 3 * x) = 0 then (β (47 + 3 * x) + (if β (48 + 3 * x) = 1 then 1 else 7)) % 8 else β (47 + 3 * x)) = walkZ β x := rfl
        rw [if_pos hd] at hz
        by_cases hw : β (48 + 3 * x) = 1
        · rw [if_pos hw] at hz
          simp (disch := omega) only [lit_0, lit_1, lit_2, lit_3, lit_4, lit_5, lit_6, lit_7, lit_8, lit_9, lit_10, lit_11, lit_12, lit_13, lit_14, lit_15, lit_16, lit_20, lit_23, lit_24, lit_31, lit_32, lit_39, lit_43, lit_45, lit_47, lit_48, lit_56, lit_57, lit_59, lit_60, lit_62, lit_63, lit_89, lit_92, lit_96, lit_97, lit_99, lit_100, lit_102, lit_103, lit_104, lit_110, lit_111, lit_115, lit_117, lit_194, lit_200, lit_644, lit_736, lit_999, lit_1000, lit_9999, lit_10000, lit_1000000000, ↓wp_mlet, ↓wp_mbp, ↓wp_ite, ↓wp_mix, ↓wp_mdiv, ↓wp_mnz, ↓wp_some, ↓wp_mbnd, ↓mlet_eq, ↓mbp_eq, ↓mbnd_eq, ↓mix_ite, ↓mdiv_ite, ↓mnz_ite, nI_add, nI_mul, nI_nat, nI_ltE, nI_leE, nI_eqE, nI_eqN, nI_Neq, nI_Nlt, nI_Nle, nI_ltN, nI_leN, ↓reduceIte, ↓Nat.reduceEqDiff, and_f, nt_e, nt_t, nl_t, nl_f, ne_t, ne_f, and_self, or_self, or_true, true_or, or_false, false_or, if_true, if_false, and_true, true_and, and_false, false_and, not_true, not_false_iff, e10, e11, q1, q2, q3, nI_rem, hd, hw, hz, Nat.reduceSub]
        · have hw2 : β (48 + 3 * x) = 2 := by omega
          rw [if_neg hw] at hz
          simp (disch := omega) only [lit_0, lit_1, lit_2, lit_3, lit_4, lit_5, lit_6, lit_7, lit_8, lit_9, lit_10, lit_11, lit_12, lit_13, lit_14, lit_15, lit_16, lit_20, lit_23, lit_24, lit_31, lit_32, lit_39, lit_43, lit_45, lit_47, lit_48, lit_56, lit_57, lit_59, lit_60, lit_62, lit_63, lit_89, lit_92, lit_96, lit_97, lit_99, lit_100, lit_102, lit_103, lit_104, lit_110, lit_111, lit_115, lit_117, lit_194, lit_200, lit_644, lit_736, lit_999, lit_1000, lit_9999, lit_10000, lit_1000000000, ↓wp_mlet, ↓wp_mbp, ↓wp_ite, ↓wp_mix, ↓wp_mdiv, ↓wp_mnz, ↓wp_some, ↓wp_mbnd, ↓mlet_eq, ↓mbp_eq, ↓mbnd_eq, ↓mix_ite, ↓mdiv_ite, ↓mnz_ite, nI_add, nI_mul, nI_nat, nI_ltE, nI_leE, nI_eqE, nI_eqN, nI_Neq, nI_Nlt, nI_Nle, nI_ltN, nI_leN, ↓reduceIte, ↓Nat.reduceEqDiff, and_f, nt_e, nt_t, nl_t, nl_f, ne_t, ne_f, and_self, or_self, or_true, true_or, or_false, false_or, if_true, if_false, and_true, true_and, and_false, false_and, not_true, not_false_iff, e10, e11, q1, q2, q3, nI_rem, hd, hw2, hz, Nat.reduceSub]
    · refine ⟨M1, ⟨by rw [← walkTo_n hd]; exact hR, hi, ha⟩, ?_⟩
      show f_X1_beginHour_L12 g (n + 1) (nI x) M1 kk = f_X1_beginHour_L12 g n (nI (x + 1)) _ kk
      rw [f_X1_beginHour_L12.eq_2]
      simp (disch := omega) only [lit_0, lit_1, lit_2, lit_3, lit_4, lit_5, lit_6, lit_7, lit_8, lit_9, lit_10, lit_11, lit_12, lit_13, lit_14, lit_15, lit_16, lit_20, lit_23, lit_24, lit_31, lit_32, lit_39, lit_43, lit_45, lit_47, lit_48, lit_56, lit_57, lit_59, lit_60, lit_62, lit_63, lit_89, lit_92, lit_96, lit_97, lit_99, lit_100, lit_102, lit_103, lit_104, lit_110, lit_111, lit_115, lit_117, lit_194, lit_200, lit_644, lit_736, lit_999, lit_1000, lit_9999, lit_10000, lit_1000000000, ↓wp_mlet, ↓wp_mbp, ↓wp_ite, ↓wp_mix, ↓wp_mdiv, ↓wp_mnz, ↓wp_some, ↓wp_mbnd, ↓mlet_eq, ↓mbp_eq, ↓mbnd_eq, ↓mix_ite, ↓mdiv_ite, ↓mnz_ite, nI_add, nI_mul, nI_nat, nI_ltE, nI_leE, nI_eqE, nI_eqN, nI_Neq, nI_Nlt, nI_Nle, nI_ltN, nI_leN, ↓reduceIte, ↓Nat.reduceEqDiff, and_f, nt_e, nt_t, nl_t, nl_f, ne_t, ne_f, and_self, or_self, or_true, true_or, or_false, false_or, if_true, if_false, and_true, true_and, and_false, false_and, not_true, not_false_iff, e10, e11, q3, nI_rem, hd]
  · have e10 : M1 g 6 4 = nI (β 10) := by rw [h.1.2.2.1, walkTo_ne (by omega)]
    show f_X1_beginHour_L12 g (n + 1) (nI (β 10)) M1 kk = kk M1
    rw [f_X1_beginHour_L12.eq_2]
    simp (disch := omega) only [lit_0, lit_1, lit_2, lit_3, lit_4, lit_5, lit_6, lit_7, lit_8, lit_9, lit_10, lit_11, lit_12, lit_13, lit_14, lit_15, lit_16, lit_20, lit_23, lit_24, lit_31, lit_32, lit_39, lit_43, lit_45, lit_47, lit_48, lit_56, lit_57, lit_59, lit_60, lit_62, lit_63, lit_89, lit_92, lit_96, lit_97, lit_99, lit_100, lit_102, lit_103, lit_104, lit_110, lit_111, lit_115, lit_117, lit_194, lit_200, lit_644, lit_736, lit_999, lit_1000, lit_9999, lit_10000, lit_1000000000, ↓wp_mlet, ↓wp_mbp, ↓wp_ite, ↓wp_mix, ↓wp_mdiv, ↓wp_mnz, ↓wp_some, ↓wp_mbnd, ↓mlet_eq, ↓mbp_eq, ↓mbnd_eq, ↓mix_ite, ↓mdiv_ite, ↓mnz_ite, nI_add, nI_mul, nI_nat, nI_ltE, nI_leE, nI_eqE, nI_eqN, nI_Neq, nI_Nlt, nI_Nle, nI_ltN, nI_leN, ↓reduceIte, ↓Nat.reduceEqDiff, and_f, nt_e, nt_t, nl_t, nl_f, ne_t, ne_f, and_self, or_self, or_true, true_or, or_false, false_or, if_true, if_false, and_true, true_and, and_false, false_and, not_true, not_false_iff, e10]
/-! zones -/
def inZ (α : Sp) (z : Nat) : Bool := (fnd (fun g => decide (α (47 + 3 * g) = z)) 0 (α 10)).isSome
def nearZ (α : Sp) (z : Nat) : Bool := inZ α ((z + 1) % 8) || inZ α ((z + 7) % 8)
theorem inZ_cg {α β : Sp} {z : Nat} (h0 : α 10 = β 10) (h1 : ∀ g, g < β 10 → α (47 + 3 * g) = β (47 + 3 * g)) : inZ α z = inZ β z := by
  unfold inZ
  rw [h0, fnd_cg (P := fun g => decide (α (47 + 3 * g) = z)) (P' := fun g => decide (β (47 + 3 * g) = z)) (fun k _ hk => by
    show decide _ = decide _
    rw [h1 k (by omega)])]
theorem nearZ_cg {α β : Sp} {z : Nat} (h0 : α 10 = β 10) (h1 : ∀ g, g < β 10 → α (47 + 3 * g) = β (47 + 3 * g)) : nearZ α z = nearZ β z := by
  unfold nearZ
  rw [inZ_cg h0 h1, inZ_cg h0 h1]
theorem c_inZ {M : Mem} {α : Sp} {g z : Nat} (hR : Rb (M g) α) (h10 : α 10 ≤ 3) (hz : z < 2147483648) (hb : ∀ k, k < α 10 → α (47 + 3 * k) < 2147483648) : f_X1_hasGuardIn g (nI z) M = some (nI (inZ α z).toNat) := by
  obtain ⟨r0, r3, r4, r5, r6, r7, r8⟩ := hR
  unfold f_X1_hasGuardIn
  generalize hN : (1000 : Nat) = N
  have key := floop (F := fun n x kk => f_X1_hasGuardIn_L2 g (nI z) M n x kk) (c := α 10) (fun g => decide (α (47 + 3 * g) = z)) (fun _ => nI 1) (fun n x kk hx => by
    have e1 := (r7 x (by omega) hx).1
    have b1 := hb x hx
    rw [f_X1_hasGuardIn_L2.eq_2]
    simp (disch := omega) only [lit_0, lit_1, lit_2, lit_3, lit_4, lit_5, lit_6, lit_7, lit_8, lit_9, lit_10, lit_11, lit_12, lit_13, lit_14, lit_15, lit_16, lit_20, lit_23, lit_24, lit_31, lit_32, lit_39, lit_43, lit_45, lit_47, lit_48, lit_56, lit_57, lit_59, lit_60, lit_62, lit_63, lit_89, lit_92, lit_96, lit_97, lit_99, lit_100, lit_102, lit_103, lit_104, lit_110, lit_111, lit_115, lit_117, lit_194, lit_200, lit_644, lit_736, lit_999, lit_1000, lit_9999, lit_10000, lit_1000000000, ↓wp_mlet, ↓wp_mbp, ↓wp_ite, ↓wp_mix, ↓wp_mdiv, ↓wp_mnz, ↓wp_some, ↓wp_mbnd, ↓mlet_eq, ↓mbp_eq, ↓mbnd_eq, ↓mix_ite, ↓mdiv_ite, ↓mnz_ite, nI_add, nI_mul, nI_nat, nI_ltE, nI_leE, nI_eqE, nI_eqN, nI_Neq, nI_Nlt, nI_Nle, nI_ltN, nI_leN, ↓reduceIte, ↓Nat.reduceEqDiff, and_f, nt_e, nt_t, nl_t, nl_f, ne_t, ne_f, and_self, or_self, or_true, true_or, or_false, false_or, if_true, if_false, and_true, true_and, and_false, false_and, not_true, not_false_iff, r4, e1, decide_eq_true_eq]) (fun n kk => by
    rw [f_X1_hasGuardIn_L2.eq_2]
    simp (disch := omega) only [lit_0, lit_1, lit_2, lit_3, lit_4, lit_5, lit_6, lit_7, lit_8, lit_9, lit_10, lit_11, lit_12, lit_13, lit_14, lit_15, lit_16, lit_20, lit_23, lit_24, lit_31, lit_32, lit_39, lit_43, lit_45, lit_47, lit_48, lit_56, lit_57, lit_59, lit_60, lit_62, lit_63, lit_89, lit_92, lit_96, lit_97, lit_99, lit_100, lit_102, lit_103, lit_104, lit_110, lit_111, lit_115, lit_117, lit_194, lit_200, lit_644, lit_736, lit_999, lit_1000, lit_9999, lit_10000, lit_1000000000, ↓wp_mlet, ↓wp_mbp, ↓wp_ite, ↓wp_mix, ↓wp_mdiv, ↓wp_mnz, ↓wp_some, ↓wp_mbnd, ↓mlet_eq, ↓mbp_eq, ↓mbnd_eq, ↓mix_ite, ↓mdiv_ite, ↓mnz_ite, nI_add, nI_mul, nI_nat, nI_ltE, nI_leE, nI_eqE, nI_eqN, nI_Neq, nI_Nlt, nI_Nle, nI_ltN, nI_leN, ↓reduceIte, ↓Nat.reduceEqDiff, and_f, nt_e, nt_t, nl_t, nl_f, ne_t, ne_f, and_self, or_self, or_true, true_or, or_false, false_or, if_true, if_false, and_true, true_and, and_false, false_and, not_true, not_false_iff, r4])
  have := key (α 10) N 0 (fun _ => some (nI 0)) (by omega) (by omega)
  rw [lit_0, this]
  unfold inZ
  cases fnd (fun g => decide (α (47 + 3 * g) = z)) 0 (α 10) <;> rfl
theorem m_inZ {M : Mem} {α : Sp} {z : Nat} {x0 : Int32} (hS : M 12 48 = enc α) (h10 : α 10 ≤ 3) (hx0 : mrem (x0 + nI 8) (nI 8) = nI z) (hz : z < 2147483648) (hb : ∀ k, k < α 10 → α (47 + 3 * k) < 2147483648) : f_X12_isIn x0 M = some (nI (inZ α z).toNat) := by
  unfold f_X12_isIn
  generalize hN : (1000 : Nat) = N
  have key := floop (F := fun n x kk => f_X12_isIn_L2 x0 M n x kk) (c := α 10) (fun g => decide (α (47 + 3 * g) = z)) (fun _ => nI 1) (fun n x kk hx => by
    have b1 := hb x hx
    have e1 := m_guard0 hS (show x < 3 by omega)
    rw [f_X12_isIn_L2.eq_2]
    simp (disch := omega) only [lit_0, lit_1, lit_2, lit_3, lit_4, lit_5, lit_6, lit_7, lit_8, lit_9, lit_10, lit_11, lit_12, lit_13, lit_14, lit_15, lit_16, lit_20, lit_23, lit_24, lit_31, lit_32, lit_39, lit_43, lit_45, lit_47, lit_48, lit_56, lit_57, lit_59, lit_60, lit_62, lit_63, lit_89, lit_92, lit_96, lit_97, lit_99, lit_100, lit_102, lit_103, lit_104, lit_110, lit_111, lit_115, lit_117, lit_194, lit_200, lit_644, lit_736, lit_999, lit_1000, lit_9999, lit_10000, lit_1000000000, ↓wp_mlet, ↓wp_mbp, ↓wp_ite, ↓wp_mix, ↓wp_mdiv, ↓wp_mnz, ↓wp_some, ↓wp_mbnd, ↓mlet_eq, ↓mbp_eq, ↓mbnd_eq, ↓mix_ite, ↓mdiv_ite, ↓mnz_ite, nI_add, nI_mul, nI_nat, nI_ltE, nI_leE, nI_eqE, nI_eqN, nI_Neq, nI_Nlt, nI_Nle, nI_ltN, nI_leN, ↓reduceIte, ↓Nat.reduceEqDiff, and_f, nt_e, nt_t, nl_t, nl_f, ne_t, ne_f, and_self, or_self, or_true, true_or, or_false, false_or, if_true, if_false, and_true, true_and, and_false, false_and, not_true, not_false_iff, ms_n hS, e1, hx0, decide_eq_true_eq]) (fun n kk => by
    rw [f_X12_isIn_L2.eq_2]
    simp (disch := omega) only [lit_0, lit_1, lit_2, lit_3, lit_4, lit_5, lit_6, lit_7, lit_8, lit_9, lit_10, lit_11, lit_12, lit_13, lit_14, lit_15, lit_16, lit_20, lit_23, lit_24, lit_31, lit_32, lit_39, lit_43, lit_45, lit_47, lit_48, lit_56, lit_57, lit_59, lit_60, lit_62, lit_63, lit_89, lit_92, lit_96, lit_97, lit_99, lit_100, lit_102, lit_103, lit_104, lit_110, lit_111, lit_115, lit_117, lit_194, lit_200, lit_644, lit_736, lit_999, lit_1000, lit_9999, lit_10000, lit_1000000000, ↓wp_mlet, ↓wp_mbp, ↓wp_ite, ↓wp_mix, ↓wp_mdiv, ↓wp_mnz, ↓wp_some, ↓wp_mbnd, ↓mlet_eq, ↓mbp_eq, ↓mbnd_eq, ↓mix_ite, ↓mdiv_ite, ↓mnz_ite, nI_add, nI_mul, nI_nat, nI_ltE, nI_leE, nI_eqE, nI_eqN, nI_Neq, nI_Nlt, nI_Nle, nI_ltN, nI_leN, ↓reduceIte, ↓Nat.reduceEqDiff, and_f, nt_e, nt_t, nl_t, nl_f, ne_t, ne_f, and_self, or_self, or_true, true_or, or_false, false_or, if_true, if_false, and_true, true_and, and_false, false_and, not_true, not_false_iff, ms_n hS])
  have := key (α 10) N 0 (fun _ => some (nI 0)) (by omega) (by omega)
  rw [lit_0, this]
  unfold inZ
  cases fnd (fun g => decide (α (47 + 3 * g) = z)) 0 (α 10) <;> rfl
theorem m_inZ0 {M : Mem} {α : Sp} {z : Nat} (hS : M 12 48 = enc α) (h10 : α 10 ≤ 3) (hz : z < 8) (hb : ∀ k, k < α 10 → α (47 + 3 * k) < 2147483648) : f_X12_isIn (nI z) M = some (nI (inZ α z).toNat) :=
  m_inZ hS h10 (by rw [nI_add, nI_rem (by omega) (by decide), show (z + 8) % 8 = z by omega]) (by omega) hb
theorem m_near {M : Mem} {α : Sp} {z : Nat} (hS : M 12 48 = enc α) (h10 : α 10 ≤ 3) (hz : z < 8) (hb : ∀ k, k < α 10 → α (47 + 3 * k) < 2147483648) : f_X12_isNear (nI z) M = some (nI (nearZ α z).toNat) := by
  have e1 : f_X12_isIn (nI z - nI 1) M = some (nI (inZ α ((z + 7) % 8)).toNat) := m_inZ hS h10 (by
    rw [nI_sub_add (by omega), nI_rem (by omega) (by decide)]
    congr 1) (by omega) hb
  have e2 : f_X12_isIn (nI (z + 1)) M = some (nI (inZ α ((z + 1) % 8)).toNat) := m_inZ hS h10 (by
    rw [nI_add, nI_rem (by omega) (by decide)]
    congr 1
    omega) (by omega) hb
  unfold f_X12_isNear nearZ
  simp only [lit_0, lit_1, nI_add, e1, e2, mbp_eq, mlet_eq]
  cases inZ α ((z + 7) % 8) <;> cases inZ α ((z + 1) % 8) <;> rfl
theorem c_near {M : Mem} {α : Sp} {g z : Nat} (hR : Rb (M g) α) (h10 : α 10 ≤ 3) (hz : z < 8) (hb : ∀ k, k < α 10 → α (47 + 3 * k) < 2147483648) : f_X1_hasGuardBeside g (nI z) M = some (nI (nearZ α z).toNat) := by
  have e1 : mrem (nI z + nI 1) (nI 8) = nI ((z + 1) % 8) := by rw [nI_add, nI_rem (by omega) (by decide)]
  have e2 : mrem (nI z + nI 8 - nI 1) (nI 8) = nI ((z + 7) % 8) := by rw [nI_add, nI_subE (by omega), nI_rem (by omega) (by decide)]; congr 1
  unfold f_X1_hasGuardBeside nearZ
  simp only [lit_0, lit_1, lit_8, e1, e2, c_inZ hR h10 (show (z + 1) % 8 < 2147483648 by omega) hb, c_inZ hR h10 (show (z + 7) % 8 < 2147483648 by omega) hb, mbp_eq, mlet_eq]
  cases inZ α ((z + 7) % 8) <;> cases inZ α ((z + 1) % 8) <;> rfl
def isAl (γ : Sp) (z : Nat) : Bool := !inZ γ z && (decide (5 ≤ γ (31 + z)) && !nearZ γ z)
def nzV (γ : Sp) (z : Nat) : Nat := if inZ γ z || (isAl γ z || decide (γ (31 + z) = 0)) then 0 else γ (31 + z) - 1
def cntA (γ : Sp) : Nat → Nat
  | 0 => 0
  | x + 1 => cntA γ x + (isAl γ x).toNat
def hz (γ : Sp) (x : Nat) : Sp := fun j => if j = 13 then γ 13 + cntA γ x else if 31 ≤ j ∧ j < 31 + x then nzV γ (j - 31) else if 39 ≤ j ∧ j < 39 + x then γ j + (isAl γ (j - 39)).toNat else γ j
theorem hz_at (γ : Sp) (x j : Nat) : hz γ x j = if j = 13 then γ 13 + cntA γ x else if 31 ≤ j ∧ j < 31 + x then nzV γ (j - 31) else if 39 ≤ j ∧ j < 39 + x then γ j + (isAl γ (j - 39)).toNat else γ j := Eq.trans rfl rfl
def lgs (γ : Sp) : Nat → Sp
  | 0 => γ
  | x + 1 => if isAl γ x then sLog (lgs γ x) 97 x else lgs γ x
def hT (γ : Sp) (x : Nat) : Sp := fun j => if j = 14 ∨ 56 ≤ j ∧ j < 92 then lgs γ x j else hz γ x j
theorem hT_at (γ : Sp) (x j : Nat) : hT γ x j = if j = 14 ∨ 56 ≤ j ∧ j < 92 then lgs γ x j else hz γ x j := Eq.trans rfl rfl
theorem sLog_14 {α : Sp} {k w : Nat} (h : α 14 ≤ 12) : sLog α k w 14 ≤ 12 := by
  have := logB_14 h
  unfold sLog
  rw [putSp_at, if_pos rfl]
  omega
theorem lgs_14 {γ : Sp} (h : γ 14 ≤ 12) : ∀ x, lgs γ x 14 ≤ 12 := by
  intro x
  induction x with
  | zero => exact h
  | succ x ih =>
    show (if isAl γ x then sLog (lgs γ x) 97 x else lgs γ x) 14 ≤ 12
    split
    · exact sLog_14 ih
    · exact ih
theorem lgs_ne {γ : Sp} (h : γ 14 ≤ 12) {j : Nat} (h1 : j ≠ 14) (h2 : ¬ (56 ≤ j ∧ j < 92)) : ∀ x, lgs γ x j = γ j := by
  intro x
  induction x with
  | zero => rfl
  | succ x ih =>
    show (if isAl γ x then sLog (lgs γ x) 97 x else lgs γ x) j = γ j
    split
    · rw [sLog_ne (lgs_14 h x) h1 h2, ih]
    · exact ih
theorem logB_cg {α β : Sp} (h : ∀ j, j = 11 ∨ j = 14 ∨ 56 ≤ j ∧ j < 92 → α j = β j) {j : Nat} (hj : j = 11 ∨ j = 14 ∨ 56 ≤ j ∧ j < 92) : logB α j = logB β j := by
  unfold logB
  rw [h 14 (by omega)]
  split
  · rw [shiftSp_at, shiftSp_at]
    split
    · rfl
    · split
      · exact h _ (by omega)
      · exact h j hj
  · exact h j hj
theorem sLog_cg {α β : Sp} {k w : Nat} (h : ∀ j, j = 11 ∨ j = 14 ∨ 56 ≤ j ∧ j < 92 → α j = β j) {j : Nat} (hj : j = 14 ∨ 56 ≤ j ∧ j < 92) : sLog α k w j = sLog β k w j := by
  unfold sLog
  rw [putSp_at, putSp_at, logB_cg h (j := 14) (by omega), logB_cg h (j := 11) (by omega), logB_cg h (j := j) (by omega)]
theorem mup_same {M : Mem} {g i k : Nat} {v : Int32} (h : M g i k = v) : mup M g i k v = M := by
  funext a b c
  rw [mup_at]
  split
  · rename_i q
    rw [q.1, q.2.1, q.2.2, h]
  · rfl
theorem hz_g {γ : Sp} {x j : Nat} (hx : x ≤ 8) (h : j = 10 ∨ j = 11 ∨ 47 ≤ j) : hz γ x j = γ j := by
  rw [hz_at, if_neg (by omega), if_neg (by omega), if_neg (by omega)]
theorem hT_g {γ : Sp} {x j : Nat} (hx : x ≤ 8) (h : j = 10 ∨ j = 11 ∨ 47 ≤ j ∧ j < 56) : hT γ x j = γ j := by
  rw [hT_at, if_neg (by omega), hz_g hx (by omega)]
theorem hz_s0 {γ : Sp} {x : Nat} (hx : x < 8) (ha : isAl γ x = false) : up (hz γ x) (31 + x) (nzV γ x) = hz γ (x + 1) := by
  funext j
  rw [up_at]
  by_cases h : j = 31 + x
  · subst h
    rw [if_pos rfl, hz_at, if_neg (by omega), if_pos (by omega), show 31 + x - 31 = x by omega]
  · rw [if_neg h]
    by_cases h2 : j = 39 + x
    · subst h2
      rw [hz_at, hz_at, if_neg (by omega), if_neg (by omega), if_neg (by omega), if_neg (by omega), if_neg (by omega), if_pos (by omega), show 39 + x - 39 = x by omega, ha]
      rfl
    · by_cases h3 : j = 13
      · subst h3
        rw [hz_at, hz_at, if_pos rfl, if_pos rfl]
        show γ 13 + cntA γ x = γ 13 + (cntA γ x + (isAl γ x).toNat)
        rw [ha]
        rfl
      · rw [hz_at, hz_at, if_neg h3, if_neg h3]
        by_cases h4 : 31 ≤ j ∧ j < 31 + x
        · rw [if_pos h4, if_pos (show 31 ≤ j ∧ j < 31 + (x + 1) by omega)]
        · rw [if_neg h4, if_neg (show ¬ (31 ≤ j ∧ j < 31 + (x + 1)) by omega)]
          by_cases h5 : 39 ≤ j ∧ j < 39 + x
          · rw [if_pos h5, if_pos (show 39 ≤ j ∧ j < 39 + (x + 1) by omega)]
          · rw [if_neg h5, if_neg (show ¬ (39 ≤ j ∧ j < 39 + (x + 1)) by omega)]
theorem hz_s1 {γ : Sp} {x : Nat} (hx : x < 8) (ha : isAl γ x = true) : up (up (up (hz γ x) (31 + x) (nzV γ x)) (39 + x) (γ (39 + x) + 1)) 13 (γ 13 + cntA γ x + 1) = hz γ (x + 1) := by
  funext j
  rw [up_at, up_at, up_at]
  by_cases h3 : j = 13
  · subst h3
    rw [if_pos rfl, hz_at, if_pos rfl]
    show _ = γ 13 + (cntA γ x + (isAl γ x).toNat)
    rw [ha]
    rfl
  · rw [if_neg h3]
    by_cases h2 : j = 39 + x
    · subst h2
      rw [if_pos rfl, hz_at, if_neg (by omega), if_neg (by omega), if_pos (by omega), show 39 + x - 39 = x by omega, ha]
      rfl
    · rw [if_neg h2]
      by_cases h : j = 31 + x
      · subst h
        rw [if_pos rfl, hz_at, if_neg (by omega), if_pos (by omega), show 31 + x - 31 = x by omega]
      · rw [if_neg h, hz_at, hz_at, if_neg h3, if_neg h3]
        by_cases h4 : 31 ≤ j ∧ j < 31 + x
        · rw [if_pos h4, if_pos (show 31 ≤ j ∧ j < 31 + (x + 1) by omega)]
        · rw [if_neg h4, if_neg (show ¬ (31 ≤ j ∧ j < 31 + (x + 1)) by omega)]
          by_cases h5 : 39 ≤ j ∧ j < 39 + x
          · rw [if_pos h5, if_pos (show 39 ≤ j ∧ j < 39 + (x + 1) by omega)]
          · rw [if_neg h5, if_neg (show ¬ (39 ≤ j ∧ j < 39 + (x + 1)) by omega)]
theorem hT_up {γ : Sp} {x k v : Nat} (hk : k ≠ 14) (hk2 : ¬ (56 ≤ k ∧ k < 92)) : ∀ j, up (hT γ x) k v j = if j = 14 ∨ 56 ≤ j ∧ j < 92 then lgs γ x j else up (hz γ x) k v j := by
  intro j
  rw [up_at, up_at, hT_at]
  by_cases h : j = 14 ∨ 56 ≤ j ∧ j < 92
  · rw [if_pos h, if_pos h, if_neg (by omega)]
  · rw [if_neg h, if_neg h]
theorem hT_s0 {γ : Sp} {x : Nat} (hx : x < 8) (ha : isAl γ x = false) : up (hT γ x) (31 + x) (nzV γ x) = hT γ (x + 1) := by
  funext j
  rw [hT_up (by omega) (by omega), hz_s0 hx ha, hT_at]
  have : lgs γ (x + 1) = lgs γ x := by
    show (if isAl γ x then sLog (lgs γ x) 97 x else lgs γ x) = lgs γ x
    rw [ha]
    rfl
  rw [this]
theorem hT_s1 {γ : Sp} {x : Nat} (hx : x < 8) (h14 : γ 14 ≤ 12) (ha : isAl γ x = true) : sLog (up (up (up (hT γ x) (31 + x) (nzV γ x)) (39 + x) (γ (39 + x) + 1)) 13 (γ 13 + cntA γ x + 1)) 97 x = hT γ (x + 1) := by
  have hl : lgs γ (x + 1) = sLog (lgs γ x) 97 x := by
    show (if isAl γ x then sLog (lgs γ x) 97 x else lgs γ x) = _
    rw [ha]
    rfl
  have hd : ∀ j, (up (up (up (hT γ x) (31 + x) (nzV γ x)) (39 + x) (γ (39 + x) + 1)) 13 (γ 13 + cntA γ x + 1)) j = if j = 14 ∨ 56 ≤ j ∧ j < 92 then lgs γ x j else hz γ (x + 1) j := by
    intro j
    rw [← hz_s1 hx ha, up_at, up_at, up_at, up_at, up_at, up_at, hT_at]
    by_cases h : j = 14 ∨ 56 ≤ j ∧ j < 92
    · rw [if_pos h, if_neg (by omega), if_neg (by omega), if_neg (by omega), if_pos h]
    · rw [if_neg h, if_neg h]
  funext j
  by_cases h : j = 14 ∨ 56 ≤ j ∧ j < 92
  · rw [hT_at, if_pos h, hl]
    refine sLog_cg (fun i hi => ?_) h
    rw [hd i]
    by_cases q : i = 14 ∨ 56 ≤ i ∧ i < 92
    · rw [if_pos q]
    · rw [if_neg q]
      have : i = 11 := by omega
      subst this
      rw [hz_g (by omega) (by omega), lgs_ne h14 (by decide) (by decide)]
  · rw [sLog_ne (by rw [hd, if_pos (Or.inl rfl)]; exact lgs_14 h14 x) (by omega) (by omega), hd, if_neg h, hT_at, if_neg h]
theorem Gd.b {γ : Sp} (h : Gd γ) : ∀ k, k < γ 10 → γ (47 + 3 * k) < 2147483648 := fun k hk => by have := (h.2.2 k hk).1; omega
/-- the zones of an hour, in the model -/
theorem m_zones {M : Mem} {γ : Sp} {N : Nat} (hN : 1000 = N) (hS : M 12 48 = enc γ) (hg : Gd γ) (h14 : γ 14 ≤ 12) (hn : ∀ k, k < 8 → γ (31 + k) ≤ 20) (kk : Int32 → Mem → Option (Int32 × Mem)) : ∃ M1, mS M M1 (hT γ 8) ∧ f_X12_oneHour_L81 N (nI 0) (nI 0) M kk = kk (nI (cntA γ 8)) M1 := by
  have h0 : hT γ 0 = γ := by
    funext j
    rw [hT_at]
    split
    · rfl
    · rw [hz_at]
      by_cases q : j = 13
      · subst q
        rw [if_pos rfl]
        rfl
      · rw [if_neg q, if_neg (show ¬ (31 ≤ j ∧ j < 31 + 0) by omega), if_neg (show ¬ (39 ≤ j ∧ j < 39 + 0) by omega)]
  have key := mloopP (F := fun n x (s : Int32 × Mem) kk => f_X12_oneHour_L81 n s.1 x s.2 (fun a b => kk (a, b))) (c := 8) (fun x s => s.1 = nI (cntA γ x) ∧ mS M s.2 (hT γ x)) (fun n x s kk hx h => ?_) (fun n s kk h => ?_) 8 N 0 (nI 0, M) (fun s => kk s.1 s.2) (by omega) (by omega) ⟨rfl, by rw [h0]; exact hS, fun _ _ _ => rfl⟩
  · obtain ⟨⟨a, M1⟩, ⟨e1, e2⟩, e3⟩ := key
    have e1' : a = nI (cntA γ 8) := e1
    subst e1'
    exact ⟨M1, e2, e3⟩
  · obtain ⟨a, M1⟩ := s
    obtain ⟨e1, hM⟩ := h
    have e1' : a = nI (cntA γ x) := e1
    subst e1'
    have hM' : mS M M1 (hT γ x) := hM
    have hS1 := hM'.1
    have b10 : hT γ x 10 = γ 10 := hT_g (by omega) (by omega)
    have bg : ∀ k, k < γ 10 → hT γ x (47 + 3 * k) = γ (47 + 3 * k) := fun k hk => hT_g (by omega) (by have := hg.1; omega)
    have ei : f_X12_isIn (nI x) M1 = some (nI (inZ γ x).toNat) := by
      rw [m_inZ0 hS1 (by rw [b10]; exact hg.1) hx (fun k hk => by rw [b10] at hk; rw [bg k hk]; exact hg.b k hk), inZ_cg b10 bg]
    have en : f_X12_isNear (nI x) M1 = some (nI (nearZ γ x).toNat) := by
      rw [m_near hS1 (by rw [b10]; exact hg.1) hx (fun k hk => by rw [b10] at hk; rw [bg k hk]; exact hg.b k hk), nearZ_cg b10 bg]
    have ev : M1 12 48 (31 + x) = nI (γ (31 + x)) := by
      rw [ms_n hS1 (by omega), hT_at, if_neg (by omega), hz_at, if_neg (by omega), if_neg (by omega), if_neg (by omega)]
    have ea : M1 12 48 (39 + x) = nI (γ (39 + x)) := by
      rw [ms_n hS1 (by omega), hT_at, if_neg (by omega), hz_at, if_neg (by omega), if_neg (by omega), if_neg (by omega)]
    have ec : M1 12 48 13 = nI (γ 13 + cntA γ x) := by
      rw [ms_n hS1 (by omega), hT_at, if_neg (by omega), hz_at, if_pos rfl]
    have hv := hn x hx
    show ∃ s' : Int32 × Mem, (s'.1 = nI (cntA γ (x + 1)) ∧ mS M s'.2 (hT γ (x + 1))) ∧ f_X12_oneHour_L81 (n + 1) (nI (cntA γ x)) (nI x) M1 (fun a b => kk (a, b)) = f_X12_oneHour_L81 n s'.1 (nI (x + 1)) s'.2 (fun a b => kk (a, b))
    rw [f_X12_oneHour_L81.eq_2]
    by_cases ha : isAl γ x = true
    · have hnz : nzV γ x = 0 := by unfold nzV; rw [ha]; simp
      have hal := ha
      unfold isAl at hal
      simp only [Bool.and_eq_true, Bool.not_eq_true', decide_eq_true_eq] at hal
      obtain ⟨l1, l2, l3⟩ := hal
      have hS2 : mS M (mup (mup (mup M1 12 48 (31 + x) (nI (nzV γ x))) 12 48 (39 + x) (nI (γ (39 + x) + 1))) 12 48 13 (nI (γ 13 + cntA γ x + 1))) (up (up (up (hT γ x) (31 + x) (nzV γ x)) (39 + x) (γ (39 + x) + 1)) 13 (γ 13 + cntA γ x + 1)) :=
        ((hM'.of_up (by omega)).of_up (by omega)).of_up (by omega)
      obtain ⟨⟨⟩, M2, el, hl⟩ := m_logs (k := 97) (w := x) hS2.1 (by
        rw [up_at, if_neg (by decide), up_at, if_neg (by omega), up_at, if_neg (by omega), hT_at, if_pos (Or.inl rfl)]
        exact lgs_14 h14 x)
      rw [hnz] at el
      refine ⟨(nI (cntA γ (x + 1)), M2), ⟨rfl, ?_⟩, ?_⟩
      · have := hS2.trans hl
        rw [hT_s1 hx h14 ha] at this
        exact this
      · have ecn : cntA γ (x + 1) = cntA γ x + 1 := by
          show cntA γ x + (isAl γ x).toNat = _
          rw [ha]
          rfl
        rw [ecn]
        simp (disch := omega) only [lit_0, lit_1, lit_2, lit_3, lit_4, lit_5, lit_6, lit_7, lit_8, lit_9, lit_10, lit_11, lit_12, lit_13, lit_14, lit_15, lit_16, lit_20, lit_23, lit_24, lit_31, lit_32, lit_39, lit_43, lit_45, lit_47, lit_48, lit_56, lit_57, lit_59, lit_60, lit_62, lit_63, lit_89, lit_92, lit_96, lit_97, lit_99, lit_100, lit_102, lit_103, lit_104, lit_110, lit_111, lit_115, lit_117, lit_194, lit_200, lit_644, lit_736, lit_999, lit_1000, lit_9999, lit_10000, lit_1000000000, ↓wp_mlet, ↓wp_mbp, ↓wp_ite, ↓wp_mix, ↓wp_mdiv, ↓wp_mnz, ↓wp_some, ↓wp_mbnd, ↓mlet_eq, ↓mbp_eq, ↓mbnd_eq, ↓mix_ite, ↓mdiv_ite, ↓mnz_ite, nI_add, nI_mul, nI_nat, nI_ltE, nI_leE, nI_eqE, nI_eqN, nI_Neq, nI_Nlt, nI_Nle, nI_ltN, nI_leN, ↓reduceIte, ↓Nat.reduceEqDiff, and_f, nt_e, nt_t, nl_t, nl_f, ne_t, ne_f, and_self, or_self, or_true, true_or, or_false, false_or, if_true, if_false, and_true, true_and, and_false, false_and, not_true, not_false_iff, mup_at, up_at, fil_at, ↓reduceIte, ↓Nat.reduceEqDiff, and_f, nt_e, nt_t, nl_t, nl_f, ne_t, ne_f, and_self, or_self, or_true, true_or, or_false, false_or, if_true, if_false, and_true, true_and, and_false, false_and, not_true, not_false_iff, ei, en, ev, ea, ec, l1, l3, Bool.toNat_false, Bool.toNat_true, el]
    · have ha' : isAl γ x = false := by simpa using ha
      have ecn : cntA γ (x + 1) = cntA γ x := by
        show cntA γ x + (isAl γ x).toNat = _
        rw [ha']
        rfl
      refine ⟨(nI (cntA γ x), mup M1 12 48 (31 + x) (nI (nzV γ x))), ⟨by rw [ecn], by rw [← hT_s0 hx ha']; exact hM'.of_up (by omega)⟩, ?_⟩
      have ha0 : isAl γ x = false := ha'
      unfold isAl at ha'
      cases hb1 : inZ γ x with
      | true =>
        have hnz : nzV γ x = 0 := by unfold nzV; rw [hb1]; simp
        rw [hnz]
        simp (disch := omega) only [lit_0, lit_1, lit_2, lit_3, lit_4, lit_5, lit_6, lit_7, lit_8, lit_9, lit_10, lit_11, lit_12, lit_13, lit_14, lit_15, lit_16, lit_20, lit_23, lit_24, lit_31, lit_32, lit_39, lit_43, lit_45, lit_47, lit_48, lit_56, lit_57, lit_59, lit_60, lit_62, lit_63, lit_89, lit_92, lit_96, lit_97, lit_99, lit_100, lit_102, lit_103, lit_104, lit_110, lit_111, lit_115, lit_117, lit_194, lit_200, lit_644, lit_736, lit_999, lit_1000, lit_9999, lit_10000, lit_1000000000, ↓wp_mlet, ↓wp_mbp, ↓wp_ite, ↓wp_mix, ↓wp_mdiv, ↓wp_mnz, ↓wp_some, ↓wp_mbnd, ↓mlet_eq, ↓mbp_eq, ↓mbnd_eq, ↓mix_ite, ↓mdiv_ite, ↓mnz_ite, nI_add, nI_mul, nI_nat, nI_ltE, nI_leE, nI_eqE, nI_eqN, nI_Neq, nI_Nlt, nI_Nle, nI_ltN, nI_leN, ↓reduceIte, ↓Nat.reduceEqDiff, and_f, nt_e, nt_t, nl_t, nl_f, ne_t, ne_f, and_self, or_self, or_true, true_or, or_false, false_or, if_true, if_false, and_true, true_and, and_false, false_and, not_true, not_false_iff, mup_at, up_at, fil_at, ↓reduceIte, ↓Nat.reduceEqDiff, and_f, nt_e, nt_t, nl_t, nl_f, ne_t, ne_f, and_self, or_self, or_true, true_or, or_false, false_or, if_true, if_false, and_true, true_and, and_false, false_and, not_true, not_false_iff, ei, ev, hb1, Bool.toNat_true]
      | false =>
        by_cases hv0 : γ (31 + x) = 0
        · have hnz : nzV γ x = 0 := by unfold nzV; rw [hv0]; simp
          rw [hnz]
          simp (disch := omega) only [lit_0, lit_1, lit_2, lit_3, lit_4, lit_5, lit_6, lit_7, lit_8, lit_9, lit_10, lit_11, lit_12, lit_13, lit_14, lit_15, lit_16, lit_20, lit_23, lit_24, lit_31, lit_32, lit_39, lit_43, lit_45, lit_47, lit_48, lit_56, lit_57, lit_59, lit_60, lit_62, lit_63, lit_89, lit_92, lit_96, lit_97, lit_99, lit_100, lit_102, lit_103, lit_104, lit_110, lit_111, lit_115, lit_117, lit_194, lit_200, lit_644, lit_736, lit_999, lit_1000, lit_9999, lit_10000, lit_1000000000, ↓wp_mlet, ↓wp_mbp, ↓wp_ite, ↓wp_mix, ↓wp_mdiv, ↓wp_mnz, ↓wp_some, ↓wp_mbnd, ↓mlet_eq, ↓mbp_eq, ↓mbnd_eq, ↓mix_ite, ↓mdiv_ite, ↓mnz_ite, nI_add, nI_mul, nI_nat, nI_ltE, nI_leE, nI_eqE, nI_eqN, nI_Neq, nI_Nlt, nI_Nle, nI_ltN, nI_leN, ↓reduceIte, ↓Nat.reduceEqDiff, and_f, nt_e, nt_t, nl_t, nl_f, ne_t, ne_f, and_self, or_self, or_true, true_or, or_false, false_or, if_true, if_false, and_true, true_and, and_false, false_and, not_true, not_false_iff, mup_at, up_at, fil_at, ↓reduceIte, ↓Nat.reduceEqDiff, and_f, nt_e, nt_t, nl_t, nl_f, ne_t, ne_f, and_self, or_self, or_true, true_or, or_false, false_or, if_true, if_false, and_true, true_and, and_false, false_and, not_true, not_false_iff, ei, ev, hb1, hv0, Bool.toNat_false]
        · have hnz : nzV γ x = γ (31 + x) - 1 := by
            unfold nzV
            rw [hb1, ha0, decide_eq_false hv0]
            rfl
          rw [hnz]
          by_cases hv5 : γ (31 + x) < 5
          · simp (disch := omega) only [lit_0, lit_1, lit_2, lit_3, lit_4, lit_5, lit_6, lit_7, lit_8, lit_9, lit_10, lit_11, lit_12, lit_13, lit_14, lit_15, lit_16, lit_20, lit_23, lit_24, lit_31, lit_32, lit_39, lit_43, lit_45, lit_47, lit_48, lit_56, lit_57, lit_59, lit_60, lit_62, lit_63, lit_89, lit_92, lit_96, lit_97, lit_99, lit_100, lit_102, lit_103, lit_104, lit_110, lit_111, lit_115, lit_117, lit_194, lit_200, lit_644, lit_736, lit_999, lit_1000, lit_9999, lit_10000, lit_1000000000, ↓wp_mlet, ↓wp_mbp, ↓wp_ite, ↓wp_mix, ↓wp_mdiv, ↓wp_mnz, ↓wp_some, ↓wp_mbnd, ↓mlet_eq, ↓mbp_eq, ↓mbnd_eq, ↓mix_ite, ↓mdiv_ite, ↓mnz_ite, nI_add, nI_mul, nI_nat, nI_ltE, nI_leE, nI_eqE, nI_eqN, nI_Neq, nI_Nlt, nI_Nle, nI_ltN, nI_leN, ↓reduceIte, ↓Nat.reduceEqDiff, and_f, nt_e, nt_t, nl_t, nl_f, ne_t, ne_f, and_self, or_self, or_true, true_or, or_false, false_or, if_true, if_false, and_true, true_and, and_false, false_and, not_true, not_false_iff, mup_at, up_at, fil_at, ↓reduceIte, ↓Nat.reduceEqDiff, and_f, nt_e, nt_t, nl_t, nl_f, ne_t, ne_f, and_self, or_self, or_true, true_or, or_false, false_or, if_true, if_false, and_true, true_and, and_false, false_and, not_true, not_false_iff, ei, ev, hb1, nI_subE, Bool.toNat_false]
          · cases hb2 : nearZ γ x with
            | true => simp (disch := omega) only [lit_0, lit_1, lit_2, lit_3, lit_4, lit_5, lit_6, lit_7, lit_8, lit_9, lit_10, lit_11, lit_12, lit_13, lit_14, lit_15, lit_16, lit_20, lit_23, lit_24, lit_31, lit_32, lit_39, lit_43, lit_45, lit_47, lit_48, lit_56, lit_57, lit_59, lit_60, lit_62, lit_63, lit_89, lit_92, lit_96, lit_97, lit_99, lit_100, lit_102, lit_103, lit_104, lit_110, lit_111, lit_115, lit_117, lit_194, lit_200, lit_644, lit_736, lit_999, lit_1000, lit_9999, lit_10000, lit_1000000000, ↓wp_mlet, ↓wp_mbp, ↓wp_ite, ↓wp_mix, ↓wp_mdiv, ↓wp_mnz, ↓wp_some, ↓wp_mbnd, ↓mlet_eq, ↓mbp_eq, ↓mbnd_eq, ↓mix_ite, ↓mdiv_ite, ↓mnz_ite, nI_add, nI_mul, nI_nat, nI_ltE, nI_leE, nI_eqE, nI_eqN, nI_Neq, nI_Nlt, nI_Nle, nI_ltN, nI_leN, ↓reduceIte, ↓Nat.reduceEqDiff, and_f, nt_e, nt_t, nl_t, nl_f, ne_t, ne_f, and_self, or_self, or_true, true_or, or_false, false_or, if_true, if_false, and_true, true_and, and_false, false_and, not_true, not_false_iff, mup_at, up_at, fil_at, ↓reduceIte, ↓Nat.reduceEqDiff, and_f, nt_e, nt_t, nl_t, nl_f, ne_t, ne_f, and_self, or_self, or_true, true_or, or_false, false_or, if_true, if_false, and_true, true_and, and_false, false_and, not_true, not_false_iff, ei, en, ev, hb1, hb2, nI_subE, Bool.toNat_false, Bool.toNat_true]
            | false =>
              exfalso
              rw [hb1, hb2, decide_eq_true (by omega)] at ha'
              cases ha'
  · obtain ⟨a, M1⟩ := s
    show f_X12_oneHour_L81 (n + 1) a (nI 8) M1 (fun a b => kk (a, b)) = kk (a, M1)
    rw [f_X12_oneHour_L81.eq_2]
    simp (disch := omega) only [lit_0, lit_1, lit_2, lit_3, lit_4, lit_5, lit_6, lit_7, lit_8, lit_9, lit_10, lit_11, lit_12, lit_13, lit_14, lit_15, lit_16, lit_20, lit_23, lit_24, lit_31, lit_32, lit_39, lit_43, lit_45, lit_47, lit_48, lit_56, lit_57, lit_59, lit_60, lit_62, lit_63, lit_89, lit_92, lit_96, lit_97, lit_99, lit_100, lit_102, lit_103, lit_104, lit_110, lit_111, lit_115, lit_117, lit_194, lit_200, lit_644, lit_736, lit_999, lit_1000, lit_9999, lit_10000, lit_1000000000, ↓wp_mlet, ↓wp_mbp, ↓wp_ite, ↓wp_mix, ↓wp_mdiv, ↓wp_mnz, ↓wp_some, ↓wp_mbnd, ↓mlet_eq, ↓mbp_eq, ↓mbnd_eq, ↓mix_ite, ↓mdiv_ite, ↓mnz_ite, nI_add, nI_mul, nI_nat, nI_ltE, nI_leE, nI_eqE, nI_eqN, nI_Neq, nI_Nlt, nI_Nle, nI_ltN, nI_leN, ↓reduceIte, ↓Nat.reduceEqDiff, and_f, nt_e, nt_t, nl_t, nl_f, ne_t, ne_f, and_self, or_self, or_true, true_or, or_false, false_or, if_true, if_false, and_true, true_and, and_false, false_and, not_true, not_false_iff]
/-! the zones of an hour, in the class -/
def msk (γ : Sp) : Nat → Nat
  | 0 => 0
  | x + 1 => msk γ x + (if isAl γ x then 2 ^ x else 0)
theorem msk_lt (γ : Sp) : ∀ x, msk γ x < 2 ^ x := by
  intro x
  induction x with
  | zero => exact Nat.one_pos
  | succ x ih =>
    show msk γ x + (if isAl γ x then 2 ^ x else 0) < 2 ^ (x + 1)
    rw [Nat.pow_succ]
    split <;> omega
theorem nI_or {x m : Nat} (hx : x < 8) (hm : m < 2 ^ x) : nI m ||| nI (2 ^ x) = nI (m + 2 ^ x) := by
  have h : ∀ x, x < 8 → ∀ m, m < 2 ^ x → nI m ||| nI (2 ^ x) = nI (m + 2 ^ x) := by decide +kernel
  exact h x hx m hm
theorem msk_bit (γ : Sp) {z : Nat} (hz : z < 8) : (nI (msk γ 8) >>> (nI z &&& nI 31)) &&& nI 1 = nI (isAl γ z).toNat := by
  have h : ∀ b0 b1 b2 b3 b4 b5 b6 b7 : Bool, ∀ z, z < 8 → (nI (0 + (if b0 then 2 ^ 0 else 0) + (if b1 then 2 ^ 1 else 0) + (if b2 then 2 ^ 2 else 0) + (if b3 then 2 ^ 3 else 0) + (if b4 then 2 ^ 4 else 0) + (if b5 then 2 ^ 5 else 0) + (if b6 then 2 ^ 6 else 0) + (if b7 then 2 ^ 7 else 0)) >>> (nI z &&& nI 31)) &&& nI 1 = nI (if z = 0 then b0.toNat else if z = 1 then b1.toNat else if z = 2 then b2.toNat else if z = 3 then b3.toNat else if z = 4 then b4.toNat else if z = 5 then b5.toNat else if z = 6 then b6.toNat else b7.toNat) := by decide +kernel
  have := h (isAl γ 0) (isAl γ 1) (isAl γ 2) (isAl γ 3) (isAl γ 4) (isAl γ 5) (isAl γ 6) (isAl γ 7) z hz
  refine Eq.trans this ?_
  rcases (show z = 0 ∨ z = 1 ∨ z = 2 ∨ z = 3 ∨ z = 4 ∨ z = 5 ∨ z = 6 ∨ z = 7 by omega) with rfl | rfl | rfl | rfl | rfl | rfl | rfl | rfl <;> rfl
theorem Rb_s0 {M : Mem} {γ : Sp} {g x : Nat} (hx : x < 8) (h : Rb (M g) (hz γ x)) (ha : isAl γ x = false) : Rb ((mup M g 7 x (nI (nzV γ x))) g) (hz γ (x + 1)) := by
  rw [← hz_s0 hx ha]
  obtain ⟨r0, r3, r4, r5, r6, r7, r8⟩ := h
  refine ⟨?_, ?_, ?_, fun k hk => ?_, fun k hk => ?_, fun k hk hk9 => ?_, fun k hk => ?_⟩
  · simp (disch := omega) only [mup_at, up_at, fil_at, ↓reduceIte, ↓Nat.reduceEqDiff, and_f, nt_e, nt_t, nl_t, nl_f, ne_t, ne_f, and_self, or_self, or_true, true_or, or_false, false_or, if_true, if_false, and_true, true_and, and_false, false_and, not_true, not_false_iff, r0]
  · simp (disch := omega) only [mup_at, up_at, fil_at, ↓reduceIte, ↓Nat.reduceEqDiff, and_f, nt_e, nt_t, nl_t, nl_f, ne_t, ne_f, and_self, or_self, or_true, true_or, or_false, false_or, if_true, if_false, and_true, true_and, and_false, false_and, not_true, not_false_iff, r3]
  · simp (disch := omega) only [mup_at, up_at, fil_at, ↓reduceIte, ↓Nat.reduceEqDiff, and_f, nt_e, nt_t, nl_t, nl_f, ne_t, ne_f, and_self, or_self, or_true, true_or, or_false, false_or, if_true, if_false, and_true, true_and, and_false, false_and, not_true, not_false_iff, r4]
  · by_cases q : k = x
    · subst q
      simp (disch := omega) only [mup_at, up_at, fil_at, ↓reduceIte, ↓Nat.reduceEqDiff, and_f, nt_e, nt_t, nl_t, nl_f, ne_t, ne_f, and_self, or_self, or_true, true_or, or_false, false_or, if_true, if_false, and_true, true_and, and_false, false_and, not_true, not_false_iff]
    · simp (disch := omega) only [mup_at, up_at, fil_at, ↓reduceIte, ↓Nat.reduceEqDiff, and_f, nt_e, nt_t, nl_t, nl_f, ne_t, ne_f, and_self, or_self, or_true, true_or, or_false, false_or, if_true, if_false, and_true, true_and, and_false, false_and, not_true, not_false_iff, r5 k hk]
  · simp (disch := omega) only [mup_at, up_at, fil_at, ↓reduceIte, ↓Nat.reduceEqDiff, and_f, nt_e, nt_t, nl_t, nl_f, ne_t, ne_f, and_self, or_self, or_true, true_or, or_false, false_or, if_true, if_false, and_true, true_and, and_false, false_and, not_true, not_false_iff, r6 k hk]
  · simp (disch := omega) only [mup_at, up_at, fil_at, ↓reduceIte, ↓Nat.reduceEqDiff, and_f, nt_e, nt_t, nl_t, nl_f, ne_t, ne_f, and_self, or_self, or_true, true_or, or_false, false_or, if_true, if_false, and_true, true_and, and_false, false_and, not_true, not_false_iff] at hk9
    have q := r7 k hk hk9
    refine ⟨?_, ?_, ?_⟩
    · simp (disch := omega) only [mup_at, up_at, fil_at, ↓reduceIte, ↓Nat.reduceEqDiff, and_f, nt_e, nt_t, nl_t, nl_f, ne_t, ne_f, and_self, or_self, or_true, true_or, or_false, false_or, if_true, if_false, and_true, true_and, and_false, false_and, not_true, not_false_iff, q.1]
    · simp (disch := omega) only [mup_at, up_at, fil_at, ↓reduceIte, ↓Nat.reduceEqDiff, and_f, nt_e, nt_t, nl_t, nl_f, ne_t, ne_f, and_self, or_self, or_true, true_or, or_false, false_or, if_true, if_false, and_true, true_and, and_false, false_and, not_true, not_false_iff, q.2.1]
    · simp (disch := omega) only [mup_at, up_at, fil_at, ↓reduceIte, ↓Nat.reduceEqDiff, and_f, nt_e, nt_t, nl_t, nl_f, ne_t, ne_f, and_self, or_self, or_true, true_or, or_false, false_or, if_true, if_false, and_true, true_and, and_false, false_and, not_true, not_false_iff, q.2.2]
  · obtain ⟨c, c1, c2⟩ := r8 k hk
    exact ⟨c, c1, by simp (disch := omega) only [mup_at, up_at, fil_at, ↓reduceIte, ↓Nat.reduceEqDiff, and_f, nt_e, nt_t, nl_t, nl_f, ne_t, ne_f, and_self, or_self, or_true, true_or, or_false, false_or, if_true, if_false, and_true, true_and, and_false, false_and, not_true, not_false_iff, c2]⟩
theorem Rb_s1 {M : Mem} {γ : Sp} {g x : Nat} (hx : x < 8) (h : Rb (M g) (hz γ x)) (ha : isAl γ x = true) : Rb ((mup (mup (mup M g 7 x (nI (nzV γ x))) g 8 x (nI (γ (39 + x) + 1))) g 6 3 (nI (γ 13 + cntA γ x + 1))) g) (hz γ (x + 1)) := by
  rw [← hz_s1 hx ha]
  obtain ⟨r0, r3, r4, r5, r6, r7, r8⟩ := h
  refine ⟨?_, ?_, ?_, fun k hk => ?_, fun k hk => ?_, fun k hk hk9 => ?_, fun k hk => ?_⟩
  · simp (disch := omega) only [mup_at, up_at, fil_at, ↓reduceIte, ↓Nat.reduceEqDiff, and_f, nt_e, nt_t, nl_t, nl_f, ne_t, ne_f, and_self, or_self, or_true, true_or, or_false, false_or, if_true, if_false, and_true, true_and, and_false, false_and, not_true, not_false_iff, r0]
  · simp (disch := omega) only [mup_at, up_at, fil_at, ↓reduceIte, ↓Nat.reduceEqDiff, and_f, nt_e, nt_t, nl_t, nl_f, ne_t, ne_f, and_self, or_self, or_true, true_or, or_false, false_or, if_true, if_false, and_true, true_and, and_false, false_and, not_true, not_false_iff, r3]
  · simp (disch := omega) only [mup_at, up_at, fil_at, ↓reduceIte, ↓Nat.reduceEqDiff, and_f, nt_e, nt_t, nl_t, nl_f, ne_t, ne_f, and_self, or_self, or_true, true_or, or_false, false_or, if_true, if_false, and_true, true_and, and_false, false_and, not_true, not_false_iff, r4]
  · by_cases q : k = x
    · subst q
      simp (disch := omega) only [mup_at, up_at, fil_at, ↓reduceIte, ↓Nat.reduceEqDiff, and_f, nt_e, nt_t, nl_t, nl_f, ne_t, ne_f, and_self, or_self, or_true, true_or, or_false, false_or, if_true, if_false, and_true, true_and, and_false, false_and, not_true, not_false_iff]
    · simp (disch := omega) only [mup_at, up_at, fil_at, ↓reduceIte, ↓Nat.reduceEqDiff, and_f, nt_e, nt_t, nl_t, nl_f, ne_t, ne_f, and_self, or_self, or_true, true_or, or_false, false_or, if_true, if_false, and_true, true_and, and_false, false_and, not_true, not_false_iff, r5 k hk]
  · by_cases q : k = x
    · subst q
      simp (disch := omega) only [mup_at, up_at, fil_at, ↓reduceIte, ↓Nat.reduceEqDiff, and_f, nt_e, nt_t, nl_t, nl_f, ne_t, ne_f, and_self, or_self, or_true, true_or, or_false, false_or, if_true, if_false, and_true, true_and, and_false, false_and, not_true, not_false_iff]
    · simp (disch := omega) only [mup_at, up_at, fil_at, ↓reduceIte, ↓Nat.reduceEqDiff, and_f, nt_e, nt_t, nl_t, nl_f, ne_t, ne_f, and_self, or_self, or_true, true_or, or_false, false_or, if_true, if_false, and_true, true_and, and_false, false_and, not_true, not_false_iff, r6 k hk]
  · simp (disch := omega) only [mup_at, up_at, fil_at, ↓reduceIte, ↓Nat.reduceEqDiff, and_f, nt_e, nt_t, nl_t, nl_f, ne_t, ne_f, and_self, or_self, or_true, true_or, or_false, false_or, if_true, if_false, and_true, true_and, and_false, false_and, not_true, not_false_iff] at hk9
    have q := r7 k hk hk9
    refine ⟨?_, ?_, ?_⟩
    · simp (disch := omega) only [mup_at, up_at, fil_at, ↓reduceIte, ↓Nat.reduceEqDiff, and_f, nt_e, nt_t, nl_t, nl_f, ne_t, ne_f, and_self, or_self, or_true, true_or, or_false, false_or, if_true, if_false, and_true, true_and, and_false, false_and, not_true, not_false_iff, q.1]
    · simp (disch := omega) only [mup_at, up_at, fil_at, ↓reduceIte, ↓Nat.reduceEqDiff, and_f, nt_e, nt_t, nl_t, nl_f, ne_t, ne_f, and_self, or_self, or_true, true_or, or_false, false_or, if_true, if_false, and_true, true_and, and_false, false_and, not_true, not_false_iff, q.2.1]
    · simp (disch := omega) only [mup_at, up_at, fil_at, ↓reduceIte, ↓Nat.reduceEqDiff, and_f, nt_e, nt_t, nl_t, nl_f, ne_t, ne_f, and_self, or_self, or_true, true_or, or_false, false_or, if_true, if_false, and_true, true_and, and_false, false_and, not_true, not_false_iff, q.2.2]
  · obtain ⟨c, c1, c2⟩ := r8 k hk
    exact ⟨c, c1, by simp (disch := omega) only [mup_at, up_at, fil_at, ↓reduceIte, ↓Nat.reduceEqDiff, and_f, nt_e, nt_t, nl_t, nl_f, ne_t, ne_f, and_self, or_self, or_true, true_or, or_false, false_or, if_true, if_false, and_true, true_and, and_false, false_and, not_true, not_false_iff, c2]⟩
theorem hz_0 (γ : Sp) : hz γ 0 = γ := by
  funext j
  rw [hz_at]
  by_cases q : j = 13
  · subst q
    rw [if_pos rfl]
    rfl
  · rw [if_neg q, if_neg (show ¬ (31 ≤ j ∧ j < 31 + 0) by omega), if_neg (show ¬ (39 ≤ j ∧ j < 39 + 0) by omega)]
theorem c_zones {M : Mem} {γ : Sp} {g N : Nat} (hN : 1000 = N) (hb : Rb (M g) γ) (hg : Gd γ) (hn : ∀ k, k < 8 → γ (31 + k) ≤ 20) (kk : Int32 → Mem → Option (Int32 × Mem)) : ∃ M1, (Rb (M1 g) (hz γ 8) ∧ (∀ i, ¬ (6 ≤ i ∧ i ≤ 8) → M1 g i = M g i) ∧ ∀ a, a ≠ g → M1 a = M a) ∧ f_X1_passOneHour_L8 g N (nI 0) (nI 0) M kk = kk (nI (msk γ 8)) M1 := by
  have key := mloopP (F := fun n x (s : Int32 × Mem) kk => f_X1_passOneHour_L8 g n s.1 x s.2 (fun a b => kk (a, b))) (c := 8) (fun x s => s.1 = nI (msk γ x) ∧ (Rb (s.2 g) (hz γ x) ∧ (∀ i, ¬ (6 ≤ i ∧ i ≤ 8) → s.2 g i = M g i) ∧ ∀ a, a ≠ g → s.2 a = M a)) (fun n x s kk hx h => ?_) (fun n s kk h => ?_) 8 N 0 (nI 0, M) (fun s => kk s.1 s.2) (by omega) (by omega) ⟨rfl, by rw [hz_0]; exact hb, fun _ _ => rfl, fun _ _ => rfl⟩
  · obtain ⟨⟨a, M1⟩, ⟨e1, e2⟩, e3⟩ := key
    have e1' : a = nI (msk γ 8) := e1
    subst e1'
    exact ⟨M1, e2, e3⟩
  · obtain ⟨a, M1⟩ := s
    obtain ⟨e1, hR, hi, hne⟩ := h
    have e1' : a = nI (msk γ x) := e1
    subst e1'
    have hR' : Rb (M1 g) (hz γ x) := hR
    have hi' : ∀ i, ¬ (6 ≤ i ∧ i ≤ 8) → M1 g i = M g i := hi
    have hne' : ∀ a, a ≠ g → M1 a = M a := hne
    obtain ⟨r0, r3, r4, r5, r6, r7, r8⟩ := id hR'
    have b10 : hz γ x 10 = γ 10 := hz_g (by omega) (by omega)
    have bg : ∀ k, k < γ 10 → hz γ x (47 + 3 * k) = γ (47 + 3 * k) := fun k hk => hz_g (by omega) (by omega)
    have ei : f_X1_hasGuardIn g (nI x) M1 = some (nI (inZ γ x).toNat) := by
      rw [c_inZ hR' (by rw [b10]; exact hg.1) (by omega) (fun k hk => by rw [b10] at hk; rw [bg k hk]; exact hg.b k hk), inZ_cg b10 bg]
    have en : f_X1_hasGuardBeside g (nI x) M1 = some (nI (nearZ γ x).toNat) := by
      rw [c_near hR' (by rw [b10]; exact hg.1) hx (fun k hk => by rw [b10] at hk; rw [bg k hk]; exact hg.b k hk), nearZ_cg b10 bg]
    have ev : M1 g 7 x = nI (γ (31 + x)) := by
      rw [r5 x hx, hz_at, if_neg (by omega), if_neg (by omega), if_neg (by omega)]
    have ea : M1 g 8 x = nI (γ (39 + x)) := by
      rw [r6 x hx, hz_at, if_neg (by omega), if_neg (by omega), if_neg (by omega)]
    have ec : M1 g 6 3 = nI (γ 13 + cntA γ x) := by
      rw [r3, hz_at, if_pos rfl]
    have hv := hn x hx
    show ∃ s' : Int32 × Mem, (s'.1 = nI (msk γ (x + 1)) ∧ (Rb (s'.2 g) (hz γ (x + 1)) ∧ (∀ i, ¬ (6 ≤ i ∧ i ≤ 8) → s'.2 g i = M g i) ∧ ∀ a, a ≠ g → s'.2 a = M a)) ∧ f_X1_passOneHour_L8 g (n + 1) (nI (msk γ x)) (nI x) M1 (fun a b => kk (a, b)) = f_X1_passOneHour_L8 g n s'.1 (nI (x + 1)) s'.2 (fun a b => kk (a, b))
    rw [f_X1_passOneHour_L8.eq_2]
    by_cases ha : isAl γ x = true
    · have hnz : nzV γ x = 0 := by unfold nzV; rw [ha]; simp
      have hal := ha
      unfold isAl at hal
      simp only [Bool.and_eq_true, Bool.not_eq_true', decide_eq_true_eq] at hal
      obtain ⟨l1, l2, l3⟩ := hal
      have hR2 := Rb_s1 hx hR' ha
      rw [hnz] at hR2
      have em : msk γ (x + 1) = msk γ x + 2 ^ x := by
        show msk γ x + (if isAl γ x then 2 ^ x else 0) = _
        rw [ha]
        rfl
      refine ⟨(nI (msk γ (x + 1)), mup (mup (mup M1 g 7 x (nI 0)) g 8 x (nI (γ (39 + x) + 1))) g 6 3 (nI (γ 13 + cntA γ x + 1))), ⟨rfl, hR2, fun i h => ?_, fun a h => ?_⟩, ?_⟩
      · show (mup (mup (mup M1 g 7 x (nI 0)) g 8 x (nI (γ (39 + x) + 1))) g 6 3 (nI (γ 13 + cntA γ x + 1))) g i = M g i
        rw [pm_ne (by omega), pm_ne (by omega), pm_ne (by omega), hi' i h]
      · show (mup (mup (mup M1 g 7 x (nI 0)) g 8 x (nI (γ (39 + x) + 1))) g 6 3 (nI (γ 13 + cntA γ x + 1))) a = M a
        rw [pm_g h, pm_g h, pm_g h, hne' a h]
      · have eo := nI_or hx (msk_lt γ x)
        simp (disch := omega) only [lit_0, lit_1, lit_2, lit_3, lit_4, lit_5, lit_6, lit_7, lit_8, lit_9, lit_10, lit_11, lit_12, lit_13, lit_14, lit_15, lit_16, lit_20, lit_23, lit_24, lit_31, lit_32, lit_39, lit_43, lit_45, lit_47, lit_48, lit_56, lit_57, lit_59, lit_60, lit_62, lit_63, lit_89, lit_92, lit_96, lit_97, lit_99, lit_100, lit_102, lit_103, lit_104, lit_110, lit_111, lit_115, lit_117, lit_194, lit_200, lit_644, lit_736, lit_999, lit_1000, lit_9999, lit_10000, lit_1000000000, ↓wp_mlet, ↓wp_mbp, ↓wp_ite, ↓wp_mix, ↓wp_mdiv, ↓wp_mnz, ↓wp_some, ↓wp_mbnd, ↓mlet_eq, ↓mbp_eq, ↓mbnd_eq, ↓mix_ite, ↓mdiv_ite, ↓mnz_ite, nI_add, nI_mul, nI_nat, nI_ltE, nI_leE, nI_eqE, nI_eqN, nI_Neq, nI_Nlt, nI_Nle, nI_ltN, nI_leN, ↓reduceIte, ↓Nat.reduceEqDiff, and_f, nt_e, nt_t, nl_t, nl_f, ne_t, ne_f, and_self, or_self, or_true, true_or, or_false, false_or, if_true, if_false, and_true, true_and, and_false, false_and, not_true, not_false_iff, mup_at, up_at, fil_at, ↓reduceIte, ↓Nat.reduceEqDiff, and_f, nt_e, nt_t, nl_t, nl_f, ne_t, ne_f, and_self, or_self, or_true, true_or, or_false, false_or, if_true, if_false, and_true, true_and, and_false, false_and, not_true, not_false_iff, ei, en, ev, ea, ec, l1, l3, Bool.toNat_false, nI_shl1, eo, em]
    · have ha' : isAl γ x = false := by simpa using ha
      have em : msk γ (x + 1) = msk γ x := by
        show msk γ x + (if isAl γ x then 2 ^ x else 0) = _
        rw [ha']
        rfl
      refine ⟨(nI (msk γ x), mup M1 g 7 x (nI (nzV γ x))), ⟨by rw [em], Rb_s0 hx hR' ha', fun i h => ?_, fun a h => ?_⟩, ?_⟩
      · show (mup M1 g 7 x (nI (nzV γ x))) g i = M g i
        rw [pm_ne (by omega), hi' i h]
      · show (mup M1 g 7 x (nI (nzV γ x))) a = M a
        rw [pm_g h, hne' a h]
      · have ha0 : isAl γ x = false := ha'
        unfold isAl at ha'
        cases hb1 : inZ γ x with
        | true =>
          have hnz : nzV γ x = 0 := by unfold nzV; rw [hb1]; simp
          rw [hnz]
          simp (disch := omega) only [lit_0, lit_1, lit_2, lit_3, lit_4, lit_5, lit_6, lit_7, lit_8, lit_9, lit_10, lit_11, lit_12, lit_13, lit_14, lit_15, lit_16, lit_20, lit_23, lit_24, lit_31, lit_32, lit_39, lit_43, lit_45, lit_47, lit_48, lit_56, lit_57, lit_59, lit_60, lit_62, lit_63, lit_89, lit_92, lit_96, lit_97, lit_99, lit_100, lit_102, lit_103, lit_104, lit_110, lit_111, lit_115, lit_117, lit_194, lit_200, lit_644, lit_736, lit_999, lit_1000, lit_9999, lit_10000, lit_1000000000, ↓wp_mlet, ↓wp_mbp, ↓wp_ite, ↓wp_mix, ↓wp_mdiv, ↓wp_mnz, ↓wp_some, ↓wp_mbnd, ↓mlet_eq, ↓mbp_eq, ↓mbnd_eq, ↓mix_ite, ↓mdiv_ite, ↓mnz_ite, nI_add, nI_mul, nI_nat, nI_ltE, nI_leE, nI_eqE, nI_eqN, nI_Neq, nI_Nlt, nI_Nle, nI_ltN, nI_leN, ↓reduceIte, ↓Nat.reduceEqDiff, and_f, nt_e, nt_t, nl_t, nl_f, ne_t, ne_f, and_self, or_self, or_true, true_or, or_false, false_or, if_true, if_false, and_true, true_and, and_false, false_and, not_true, not_false_iff, mup_at, up_at, fil_at, ↓reduceIte, ↓Nat.reduceEqDiff, and_f, nt_e, nt_t, nl_t, nl_f, ne_t, ne_f, and_self, or_self, or_true, true_or, or_false, false_or, if_true, if_false, and_true, true_and, and_false, false_and, not_true, not_false_iff, ei, ev, hb1, Bool.toNat_true]
        | false =>
          by_cases hv0 : γ (31 + x) = 0
          · have hnz : nzV γ x = 0 := by unfold nzV; rw [hv0]; simp
            have es : mup M1 g 7 x (nI 0) = M1 := mup_same (by rw [ev, hv0])
            rw [hnz, es]
            simp (disch := omega) only [lit_0, lit_1, lit_2, lit_3, lit_4, lit_5, lit_6, lit_7, lit_8, lit_9, lit_10, lit_11, lit_12, lit_13, lit_14, lit_15, lit_16, lit_20, lit_23, lit_24, lit_31, lit_32, lit_39, lit_43, lit_45, lit_47, lit_48, lit_56, lit_57, lit_59, lit_60, lit_62, lit_63, lit_89, lit_92, lit_96, lit_97, lit_99, lit_100, lit_102, lit_103, lit_104, lit_110, lit_111, lit_115, lit_117, lit_194, lit_200, lit_644, lit_736, lit_999, lit_1000, lit_9999, lit_10000, lit_1000000000, ↓wp_mlet, ↓wp_mbp, ↓wp_ite, ↓wp_mix, ↓wp_mdiv, ↓wp_mnz, ↓wp_some, ↓wp_mbnd, ↓mlet_eq, ↓mbp_eq, ↓mbnd_eq, ↓mix_ite, ↓mdiv_ite, ↓mnz_ite, nI_add, nI_mul, nI_nat, nI_ltE, nI_leE, nI_eqE, nI_eqN, nI_Neq, nI_Nlt, nI_Nle, nI_ltN, nI_leN, ↓reduceIte, ↓Nat.reduceEqDiff, and_f, nt_e, nt_t, nl_t, nl_f, ne_t, ne_f, and_self, or_self, or_true, true_or, or_false, false_or, if_true, if_false, and_true, true_and, and_false, false_and, not_true, not_false_iff, mup_at, up_at, fil_at, ↓reduceIte, ↓Nat.reduceEqDiff, and_f, nt_e, nt_t, nl_t, nl_f, ne_t, ne_f, and_self, or_self, or_true, true_or, or_false, false_or, if_true, if_false, and_true, true_and, and_false, false_and, not_true, not_false_iff, ei, ev, hb1, hv0, Bool.toNat_false]
          · have hnz : nzV γ x = γ (31 + x) - 1 := by
              unfold nzV
              rw [hb1, ha0, decide_eq_false hv0]
              rfl
            rw [hnz]
            by_cases hv5 : γ (31 + x) < 5
            · simp (disch := omega) only [lit_0, lit_1, lit_2, lit_3, lit_4, lit_5, lit_6, lit_7, lit_8, lit_9, lit_10, lit_11, lit_12, lit_13, lit_14, lit_15, lit_16, lit_20, lit_23, lit_24, lit_31, lit_32, lit_39, lit_43, lit_45, lit_47, lit_48, lit_56, lit_57, lit_59, lit_60, lit_62, lit_63, lit_89, lit_92, lit_96, lit_97, lit_99, lit_100, lit_102, lit_103, lit_104, lit_110, lit_111, lit_115, lit_117, lit_194, lit_200, lit_644, lit_736, lit_999, lit_1000, lit_9999, lit_10000, lit_1000000000, ↓wp_mlet, ↓wp_mbp, ↓wp_ite, ↓wp_mix, ↓wp_mdiv, ↓wp_mnz, ↓wp_some, ↓wp_mbnd, ↓mlet_eq, ↓mbp_eq, ↓mbnd_eq, ↓mix_ite, ↓mdiv_ite, ↓mnz_ite, nI_add, nI_mul, nI_nat, nI_ltE, nI_leE, nI_eqE, nI_eqN, nI_Neq, nI_Nlt, nI_Nle, nI_ltN, nI_leN, ↓reduceIte, ↓Nat.reduceEqDiff, and_f, nt_e, nt_t, nl_t, nl_f, ne_t, ne_f, and_self, or_self, or_true, true_or, or_false, false_or, if_true, if_false, and_true, true_and, and_false, false_and, not_true, not_false_iff, mup_at, up_at, fil_at, ↓reduceIte, ↓Nat.reduceEqDiff, and_f, nt_e, nt_t, nl_t, nl_f, ne_t, ne_f, and_self, or_self, or_true, true_or, or_false, false_or, if_true, if_false, and_true, true_and, and_false, false_and, not_true, not_false_iff, ei, ev, hb1, nI_subE, Bool.toNat_false]
            · cases hb2 : nearZ γ x with
              | true => simp (disch := omega) only [lit_0, lit_1, lit_2, lit_3, lit_4, lit_5, lit_6, lit_7, lit_8, lit_9, lit_10, lit_11, lit_12, lit_13, lit_14, lit_15, lit_16, lit_20, lit_23, lit_24, lit_31, lit_32, lit_39, lit_43, lit_45, lit_47, lit_48, lit_56, lit_57, lit_59, lit_60, lit_62, lit_63, lit_89, lit_92, lit_96, lit_97, lit_99, lit_100, lit_102, lit_103, lit_104, lit_110, lit_111, lit_115, lit_117, lit_194, lit_200, lit_644, lit_736, lit_999, lit_1000, lit_9999, lit_10000, lit_1000000000, ↓wp_mlet, ↓wp_mbp, ↓wp_ite, ↓wp_mix, ↓wp_mdiv, ↓wp_mnz, ↓wp_some, ↓wp_mbnd, ↓mlet_eq, ↓mbp_eq, ↓mbnd_eq, ↓mix_ite, ↓mdiv_ite, ↓mnz_ite, nI_add, nI_mul, nI_nat, nI_ltE, nI_leE, nI_eqE, nI_eqN, nI_Neq, nI_Nlt, nI_Nle, nI_ltN, nI_leN, ↓reduceIte, ↓Nat.reduceEqDiff, and_f, nt_e, nt_t, nl_t, nl_f, ne_t, ne_f, and_self, or_self, or_true, true_or, or_false, false_or, if_true, if_false, and_true, true_and, and_false, false_and, not_true, not_false_iff, mup_at, up_at, fil_at, ↓reduceIte, ↓Nat.reduceEqDiff, and_f, nt_e, nt_t, nl_t, nl_f, ne_t, ne_f, and_self, or_self, or_true, true_or, or_false, false_or, if_true, if_false, and_true, true_and, and_false, false_and, not_true, not_false_iff, ei, en, ev, hb1, hb2, nI_subE, Bool.toNat_false, Bool.toNat_true]
              | false =>
                exfalso
                rw [hb1, hb2, decide_eq_true (by omega)] at ha'
                cases ha'
  · obtain ⟨a, M1⟩ := s
    show f_X1_passOneHour_L8 g (n + 1) a (nI 8) M1 (fun a b => kk (a, b)) = kk (a, M1)
    rw [f_X1_passOneHour_L8.eq_2]
    simp (disch := omega) only [lit_0, lit_1, lit_2, lit_3, lit_4, lit_5, lit_6, lit_7, lit_8, lit_9, lit_10, lit_11, lit_12, lit_13, lit_14, lit_15, lit_16, lit_20, lit_23, lit_24, lit_31, lit_32, lit_39, lit_43, lit_45, lit_47, lit_48, lit_56, lit_57, lit_59, lit_60, lit_62, lit_63, lit_89, lit_92, lit_96, lit_97, lit_99, lit_100, lit_102, lit_103, lit_104, lit_110, lit_111, lit_115, lit_117, lit_194, lit_200, lit_644, lit_736, lit_999, lit_1000, lit_9999, lit_10000, lit_1000000000, ↓wp_mlet, ↓wp_mbp, ↓wp_ite, ↓wp_mix, ↓wp_mdiv, ↓wp_mnz, ↓wp_some, ↓wp_mbnd, ↓mlet_eq, ↓mbp_eq, ↓mbnd_eq, ↓mix_ite, ↓mdiv_ite, ↓mnz_ite, nI_add, nI_mul, nI_nat, nI_ltE, nI_leE, nI_eqE, nI_eqN, nI_Neq, nI_Nlt, nI_Nle, nI_ltN, nI_leN, ↓reduceIte, ↓Nat.reduceEqDiff, and_f, nt_e, nt_t, nl_t, nl_f, ne_t, ne_f, and_self, or_self, or_true, true_or, or_false, false_or, if_true, if_false, and_true, true_and, and_false, false_and, not_true, not_false_iff]
/-! AN HOUR, whole -/
def hourSp (α : Sp) : Sp := up (hT (walkSp α) 8) 7 (walkSp α 7 - 1)
def LI (α : Sp) : Prop := ∀ k, k < α 14 → α (56 + 3 * k) ≤ α 11 ∧ (α (57 + 3 * k) = 97 ∨ α (57 + 3 * k) = 99 ∨ α (57 + 3 * k) = 102 ∨ α (57 + 3 * k) = 111) ∧ α (58 + 3 * k) ≤ 8
theorem LI_B {α : Sp} (h14 : α 14 ≤ 12) (h : LI α) : LI (logB α) := by
  unfold logB
  split
  · rename_i q
    intro k hk
    rw [shiftSp_at, if_pos rfl] at hk
    have := h (k + 1) (by omega)
    rw [shiftSp_at, shiftSp_at, shiftSp_at, shiftSp_at, if_neg (by omega), if_pos (by omega), if_neg (by omega), if_neg (by omega), if_neg (by omega), if_pos (by omega), if_neg (by omega), if_pos (by omega)]
    rw [show 56 + 3 * k + 3 = 56 + 3 * (k + 1) by omega, show 57 + 3 * k + 3 = 57 + 3 * (k + 1) by omega, show 58 + 3 * k + 3 = 58 + 3 * (k + 1) by omega]
    exact this
  · exact h
theorem LI_put {β : Sp} {k w : Nat} (h14 : β 14 < 12) (h : LI β) (hk : k = 97 ∨ k = 99 ∨ k = 102 ∨ k = 111) (hw : w ≤ 8) : LI (putSp β k w) := by
  intro i hi
  rw [putSp_at, if_pos rfl] at hi
  have e11 : putSp β k w 11 = β 11 := by rw [putSp_at, if_neg (by omega), if_neg (by omega), if_neg (by omega), if_neg (by omega)]
  rw [e11]
  by_cases q : i = β 14
  · subst q
    have e1 : putSp β k w (56 + 3 * β 14) = β 11 := by rw [putSp_at, if_neg (by omega), if_neg (by omega), if_neg (by omega), if_pos rfl]
    have e2 : putSp β k w (57 + 3 * β 14) = k := by rw [putSp_at, if_neg (by omega), if_neg (by omega), if_pos rfl]
    have e3 : putSp β k w (58 + 3 * β 14) = w := by rw [putSp_at, if_neg (by omega), if_pos rfl]
    rw [e1, e2, e3]
    exact ⟨Nat.le_refl _, hk, hw⟩
  · have e1 : ∀ j, 56 ≤ j → j < 56 + 3 * β 14 → putSp β k w j = β j := fun j h1 h2 => by
      rw [putSp_at, if_neg (by omega), if_neg (by omega), if_neg (by omega), if_neg (by omega)]
    rw [e1 _ (by omega) (by omega), e1 _ (by omega) (by omega), e1 _ (by omega) (by omega)]
    exact h i (by omega)
theorem LI_log {α : Sp} {k w : Nat} (h14 : α 14 ≤ 12) (h : LI α) (hk : k = 97 ∨ k = 99 ∨ k = 102 ∨ k = 111) (hw : w ≤ 8) : LI (sLog α k w) := LI_put (logB_14 h14) (LI_B h14 h) hk hw
theorem LI_lgs {γ : Sp} (h14 : γ 14 ≤ 12) (h : LI γ) : ∀ x, x ≤ 8 → LI (lgs γ x) := by
  intro x
  induction x with
  | zero => intro _; exact h
  | succ x ih =>
    intro hx
    show LI (if isAl γ x then sLog (lgs γ x) 97 x else lgs γ x)
    split
    · exact LI_log (lgs_14 h14 x) (ih (by omega)) (Or.inl rfl) (by omega)
    · exact ih (by omega)
theorem walkSp_ne {α : Sp} {j : Nat} (h1 : j ≠ 11) (h2 : ¬ (47 ≤ j ∧ j < 56 ∧ (j - 47) % 3 = 0)) (h10 : α 10 ≤ 3) : walkSp α j = α j := by
  unfold walkSp incSp
  rw [walkTo_ne (by omega), up_at, if_neg h1]
theorem walkSp_11 {α : Sp} : walkSp α 11 = α 11 + 1 := by
  unfold walkSp incSp
  rw [walkTo_ne (by omega), up_at, if_pos rfl]
theorem walkZ_lt {β : Sp} {g : Nat} (h : β (47 + 3 * g) ≤ 7) : walkZ β g ≤ 7 := by
  unfold walkZ
  split <;> omega
theorem Gd_inc {H : Nat} {α : Sp} (hi : Inv H α) (hH : H < 999999) : Gd (incSp α) := by
  obtain ⟨⟨b0, b1, b2, b3, b4, b5, b6, b7, b8, b9, b10, b11, b14⟩, -, -, bs, bk, -, bz, -, bg, -⟩ := hi
  unfold incSp
  refine ⟨by rw [up_at, if_neg (by decide)]; exact b10, by rw [up_at, if_pos rfl]; omega, fun k hk => ?_⟩
  rw [up_at, if_neg (by decide)] at hk
  rw [up_at, up_at, up_at, if_neg (by omega), if_neg (by omega), if_neg (by omega)]
  exact bg k hk
theorem Gd_walk {H : Nat} {α : Sp} (hi : Inv H α) (hH : H < 999999) : Gd (walkSp α) := by
  have h0 := Gd_inc hi hH
  obtain ⟨⟨b0, b1, b2, b3, b4, b5, b6, b7, b8, b9, b10, b11, b14⟩, -, -, bs, bk, -, bz, -, bg, -⟩ := hi
  refine ⟨by rw [walkSp_ne (by decide) (by decide) b10]; exact b10, by rw [walkSp_11]; omega, fun k hk => ?_⟩
  rw [walkSp_ne (by decide) (by decide) b10] at hk
  have h2 := h0.2.2 k (by unfold incSp; rw [up_at, if_neg (by decide)]; exact hk)
  rw [walkSp_ne (j := 48 + 3 * k) (by omega) (by omega) b10, walkSp_ne (j := 49 + 3 * k) (by omega) (by omega) b10]
  refine ⟨?_, (bg k hk).2⟩
  unfold walkSp
  rw [walkTo_z hk]
  exact walkZ_lt h2.1
theorem m_hour {M : Mem} {α : Sp} {H : Nat} (hS : M 12 48 = enc α) (hi : Inv H α) (hH : H < 999999) : wp (f_X12_oneHour M) (fun r M1 => r = nI (cntA (walkSp α) 8) ∧ mS M M1 (hourSp α)) := by
  have g1 := Gd_inc hi hH
  have g2 := Gd_walk hi hH
  obtain ⟨⟨b0, b1, b2, b3, b4, b5, b6, b7, b8, b9, b10, b11, b14⟩, -, -, bs, bk, -, bz, -, bg, -⟩ := hi
  unfold f_X12_oneHour
  generalize hN : (1000 : Nat) = N
  simp (disch := omega) only [lit_0, lit_1, lit_2, lit_3, lit_4, lit_5, lit_6, lit_7, lit_8, lit_9, lit_10, lit_11, lit_12, lit_13, lit_14, lit_15, lit_16, lit_20, lit_23, lit_24, lit_31, lit_32, lit_39, lit_43, lit_45, lit_47, lit_48, lit_56, lit_57, lit_59, lit_60, lit_62, lit_63, lit_89, lit_92, lit_96, lit_97, lit_99, lit_100, lit_102, lit_103, lit_104, lit_110, lit_111, lit_115, lit_117, lit_194, lit_200, lit_644, lit_736, lit_999, lit_1000, lit_9999, lit_10000, lit_1000000000, ↓wp_mlet, ↓wp_mbp, ↓wp_ite, ↓wp_mix, ↓wp_mdiv, ↓wp_mnz, ↓wp_some, ↓wp_mbnd, ↓mlet_eq, ↓mbp_eq, ↓mbnd_eq, ↓mix_ite, ↓mdiv_ite, ↓mnz_ite, nI_add, nI_mul, nI_nat, nI_ltE, nI_leE, nI_eqE, nI_eqN, nI_Neq, nI_Nlt, nI_Nle, nI_ltN, nI_leN, ↓reduceIte, ↓Nat.reduceEqDiff, and_f, nt_e, nt_t, nl_t, nl_f, ne_t, ne_f, and_self, or_self, or_true, true_or, or_false, false_or, if_true, if_false, and_true, true_and, and_false, false_and, not_true, not_false_iff, ms_n hS]
  have hI : mS M (mup M 12 48 11 (nI (α 11 + 1))) (incSp α) := ⟨by rw [pm_self, hS, enc_up (by decide)]; rfl, fun a b h => by rw [pm_ne h]⟩
  obtain ⟨M1, h1, e1⟩ := m_walk hN hI.1 g1 (fun M13 => f_X12_oneHour_L81 N (nI 0) (nI 0) M13 fun x45 M46 => if M46 12 48 7 ≤ nI 0 then some (x45, mup M46 12 48 7 (M46 12 48 7 - nI 0)) else some (x45, mup M46 12 48 7 (M46 12 48 7 - nI 1)))
  have h1' : mS M M1 (walkSp α) := by
    have := hI.trans h1
    have e : incSp α 10 = α 10 := by unfold incSp; rw [up_at, if_neg (by decide)]
    rw [e] at this
    exact this
  have h14 : walkSp α 14 ≤ 12 := by rw [walkSp_ne (by decide) (by decide) b10]; exact b14
  obtain ⟨M2, h2, e2⟩ := m_zones hN h1'.1 g2 h14 (fun k hk => by rw [walkSp_ne (by omega) (by omega) b10]; exact (bz k hk).1) (fun x45 M46 => if M46 12 48 7 ≤ nI 0 then some (x45, mup M46 12 48 7 (M46 12 48 7 - nI 0)) else some (x45, mup M46 12 48 7 (M46 12 48 7 - nI 1)))
  have h3 := h1'.trans h2
  have e7 : M2 12 48 7 = nI (walkSp α 7) := by
    rw [ms_n h3.1 (by decide), hT_at, if_neg (by decide), hz_at, if_neg (by decide), if_neg (by decide), if_neg (by decide)]
  have hw7 : walkSp α 7 ≤ 6 := by rw [walkSp_ne (by decide) (by decide) b10]; exact b7
  have fin : wp (if M2 12 48 7 ≤ nI 0 then some (nI (cntA (walkSp α) 8), mup M2 12 48 7 (M2 12 48 7 - nI 0)) else some (nI (cntA (walkSp α) 8), mup M2 12 48 7 (M2 12 48 7 - nI 1))) (fun r M1 => r = nI (cntA (walkSp α) 8) ∧ mS M M1 (hourSp α)) := by
    by_cases q : walkSp α 7 = 0
    · have e : hourSp α = up (hT (walkSp α) 8) 7 0 := by unfold hourSp; rw [show walkSp α 7 - 1 = 0 by omega]
      rw [e]
      simp (disch := omega) only [lit_0, lit_1, lit_2, lit_3, lit_4, lit_5, lit_6, lit_7, lit_8, lit_9, lit_10, lit_11, lit_12, lit_13, lit_14, lit_15, lit_16, lit_20, lit_23, lit_24, lit_31, lit_32, lit_39, lit_43, lit_45, lit_47, lit_48, lit_56, lit_57, lit_59, lit_60, lit_62, lit_63, lit_89, lit_92, lit_96, lit_97, lit_99, lit_100, lit_102, lit_103, lit_104, lit_110, lit_111, lit_115, lit_117, lit_194, lit_200, lit_644, lit_736, lit_999, lit_1000, lit_9999, lit_10000, lit_1000000000, ↓wp_mlet, ↓wp_mbp, ↓wp_ite, ↓wp_mix, ↓wp_mdiv, ↓wp_mnz, ↓wp_some, ↓wp_mbnd, ↓mlet_eq, ↓mbp_eq, ↓mbnd_eq, ↓mix_ite, ↓mdiv_ite, ↓mnz_ite, nI_add, nI_mul, nI_nat, nI_ltE, nI_leE, nI_eqE, nI_eqN, nI_Neq, nI_Nlt, nI_Nle, nI_ltN, nI_leN, ↓reduceIte, ↓Nat.reduceEqDiff, and_f, nt_e, nt_t, nl_t, nl_f, ne_t, ne_f, and_self, or_self, or_true, true_or, or_false, false_or, if_true, if_false, and_true, true_and, and_false, false_and, not_true, not_false_iff, e7, q, nI_subE, Nat.sub_zero]
      exact h3.of_up (k := 7) (v := 0) (by decide)
    · simp (disch := omega) only [lit_0, lit_1, lit_2, lit_3, lit_4, lit_5, lit_6, lit_7, lit_8, lit_9, lit_10, lit_11, lit_12, lit_13, lit_14, lit_15, lit_16, lit_20, lit_23, lit_24, lit_31, lit_32, lit_39, lit_43, lit_45, lit_47, lit_48, lit_56, lit_57, lit_59, lit_60, lit_62, lit_63, lit_89, lit_92, lit_96, lit_97, lit_99, lit_100, lit_102, lit_103, lit_104, lit_110, lit_111, lit_115, lit_117, lit_194, lit_200, lit_644, lit_736, lit_999, lit_1000, lit_9999, lit_10000, lit_1000000000, ↓wp_mlet, ↓wp_mbp, ↓wp_ite, ↓wp_mix, ↓wp_mdiv, ↓wp_mnz, ↓wp_some, ↓wp_mbnd, ↓mlet_eq, ↓mbp_eq, ↓mbnd_eq, ↓mix_ite, ↓mdiv_ite, ↓mnz_ite, nI_add, nI_mul, nI_nat, nI_ltE, nI_leE, nI_eqE, nI_eqN, nI_Neq, nI_Nlt, nI_Nle, nI_ltN, nI_leN, ↓reduceIte, ↓Nat.reduceEqDiff, and_f, nt_e, nt_t, nl_t, nl_f, ne_t, ne_f, and_self, or_self, or_true, true_or, or_false, false_or, if_true, if_false, and_true, true_and, and_false, false_and, not_true, not_false_iff, e7, nI_subE]
      exact h3.of_up (k := 7) (v := walkSp α 7 - 1) (by decide)
  obtain ⟨r, M9, q1, q2⟩ := fin
  refine ⟨r, M9, ?_, q2⟩
  rw [← q1, ← e2, ← e1]
theorem c_bhour {M : Mem} {α : Sp} {H g : Nat} (hb : Rb (M g) α) (hi : Inv H α) (hH : H < 999999) : wp (f_X1_passOneHour g M) (fun r M1 => r = nI (msk (walkSp α) 8) ∧ Rb (M1 g) (hz (walkSp α) 8) ∧ (∀ i, ¬ (6 ≤ i ∧ i ≤ 11) → M1 g i = M g i) ∧ ∀ a, a ≠ g → M1 a = M a) := by
  have g1 := Gd_inc hi hH
  have g2 := Gd_walk hi hH
  obtain ⟨⟨b0, b1, b2, b3, b4, b5, b6, b7, b8, b9, b10, b11, b14⟩, -, -, bs, bk, -, bz, -, bg, -⟩ := hi
  obtain ⟨r0, r3, r4, r5, r6, r7, r8⟩ := id hb
  unfold f_X1_passOneHour f_X1_beginHour
  generalize hN : (1000 : Nat) = N
  have hI : Rb ((mup M g 6 0 (nI (α 11 + 1))) g) (incSp α) := by
    unfold incSp
    refine ⟨?_, ?_, ?_, fun k hk => ?_, fun k hk => ?_, fun k hk hk9 => ?_, fun k hk => ?_⟩
    · simp (disch := omega) only [mup_at, up_at, fil_at, ↓reduceIte, ↓Nat.reduceEqDiff, and_f, nt_e, nt_t, nl_t, nl_f, ne_t, ne_f, and_self, or_self, or_true, true_or, or_false, false_or, if_true, if_false, and_true, true_and, and_false, false_and, not_true, not_false_iff]
    · simp (disch := omega) only [mup_at, up_at, fil_at, ↓reduceIte, ↓Nat.reduceEqDiff, and_f, nt_e, nt_t, nl_t, nl_f, ne_t, ne_f, and_self, or_self, or_true, true_or, or_false, false_or, if_true, if_false, and_true, true_and, and_false, false_and, not_true, not_false_iff, r3]
    · simp (disch := omega) only [mup_at, up_at, fil_at, ↓reduceIte, ↓Nat.reduceEqDiff, and_f, nt_e, nt_t, nl_t, nl_f, ne_t, ne_f, and_self, or_self, or_true, true_or, or_false, false_or, if_true, if_false, and_true, true_and, and_false, false_and, not_true, not_false_iff, r4]
    · simp (disch := omega) only [mup_at, up_at, fil_at, ↓reduceIte, ↓Nat.reduceEqDiff, and_f, nt_e, nt_t, nl_t, nl_f, ne_t, ne_f, and_self, or_self, or_true, true_or, or_false, false_or, if_true, if_false, and_true, true_and, and_false, false_and, not_true, not_false_iff, r5 k hk]
    · simp (disch := omega) only [mup_at, up_at, fil_at, ↓reduceIte, ↓Nat.reduceEqDiff, and_f, nt_e, nt_t, nl_t, nl_f, ne_t, ne_f, and_self, or_self, or_true, true_or, or_false, false_or, if_true, if_false, and_true, true_and, and_false, false_and, not_true, not_false_iff, r6 k hk]
    · simp (disch := omega) only [mup_at, up_at, fil_at, ↓reduceIte, ↓Nat.reduceEqDiff, and_f, nt_e, nt_t, nl_t, nl_f, ne_t, ne_f, and_self, or_self, or_true, true_or, or_false, false_or, if_true, if_false, and_true, true_and, and_false, false_and, not_true, not_false_iff] at hk9
      have q := r7 k hk hk9
      refine ⟨?_, ?_, ?_⟩
      · simp (disch := omega) only [mup_at, up_at, fil_at, ↓reduceIte, ↓Nat.reduceEqDiff, and_f, nt_e, nt_t, nl_t, nl_f, ne_t, ne_f, and_self, or_self, or_true, true_or, or_false, false_or, if_true, if_false, and_true, true_and, and_false, false_and, not_true, not_false_iff, q.1]
      · simp (disch := omega) only [mup_at, up_at, fil_at, ↓reduceIte, ↓Nat.reduceEqDiff, and_f, nt_e, nt_t, nl_t, nl_f, ne_t, ne_f, and_self, or_self, or_true, true_or, or_false, false_or, if_true, if_false, and_true, true_and, and_false, false_and, not_true, not_false_iff, q.2.1]
      · simp (disch := omega) only [mup_at, up_at, fil_at, ↓reduceIte, ↓Nat.reduceEqDiff, and_f, nt_e, nt_t, nl_t, nl_f, ne_t, ne_f, and_self, or_self, or_true, true_or, or_false, false_or, if_true, if_false, and_true, true_and, and_false, false_and, not_true, not_false_iff, q.2.2]
    · obtain ⟨c, c1, c2⟩ := r8 k hk
      exact ⟨c, c1, by simp (disch := omega) only [mup_at, up_at, fil_at, ↓reduceIte, ↓Nat.reduceEqDiff, and_f, nt_e, nt_t, nl_t, nl_f, ne_t, ne_f, and_self, or_self, or_true, true_or, or_false, false_or, if_true, if_false, and_true, true_and, and_false, false_and, not_true, not_false_iff, c2]⟩
  obtain ⟨M1, ⟨h1, h2, h3⟩, e1⟩ := c_walk hN hI g1 (fun M13 => some ((), M13))
  have e10 : incSp α 10 = α 10 := by unfold incSp; rw [up_at, if_neg (by decide)]
  rw [e10] at h1
  obtain ⟨M2, ⟨k1, k2, k3⟩, e2⟩ := c_zones hN h1 g2 (fun k hk => by
    show walkSp α (31 + k) ≤ 20
    rw [walkSp_ne (by omega) (by omega) b10]; exact (bz k hk).1) (fun x24 M25 => some (x24, M25))
  simp only [lit_0, lit_1, lit_2, lit_3, lit_4, lit_5, lit_6, lit_7, lit_8, lit_9, lit_10, lit_11, lit_12, lit_13, lit_14, lit_15, lit_16, lit_20, lit_23, lit_24, lit_31, lit_32, lit_39, lit_43, lit_45, lit_47, lit_48, lit_56, lit_57, lit_59, lit_60, lit_62, lit_63, lit_89, lit_92, lit_96, lit_97, lit_99, lit_100, lit_102, lit_103, lit_104, lit_110, lit_111, lit_115, lit_117, lit_194, lit_200, lit_644, lit_736, lit_999, lit_1000, lit_9999, lit_10000, lit_1000000000, r0, nI_add, mlet_eq]
  rw [e1, wp_mbnd, wp_some, e2, wp_some]
  refine ⟨rfl, k1, fun i h => ?_, fun a h => ?_⟩
  · rw [k2 i (by omega), h2 i (by omega), pm_ne (by omega)]
  · rw [k3 a h, h3 a h, pm_g h]
/-- the class's entries of the alarms of an hour -/
theorem c_alarms {M : Mem} {γ δ : Sp} {N : Nat} (hN : 1000 = N) (hj : Rj (M 0) γ) (h14 : γ 14 ≤ 12) (h11 : M 0 6 0 = nI (γ 11)) (kk : Mem → Option (Unit × Mem)) : ∃ M1, (Rj (M1 0) (lgs γ 8) ∧ (∀ i, ¬ (12 ≤ i ∧ i ≤ 15) → M1 0 i = M 0 i) ∧ ∀ a, a ≠ 0 → M1 a = M a) ∧ f_X9_enterAlarms_L2 0 (nI (msk γ 8)) N (nI 0) M kk = kk M1 := by
  refine mloopP (F := fun n x s kk => f_X9_enterAlarms_L2 0 (nI (msk γ 8)) n x s kk) (c := 8) (fun x M1 => Rj (M1 0) (lgs γ x) ∧ (∀ i, ¬ (12 ≤ i ∧ i ≤ 15) → M1 0 i = M 0 i) ∧ ∀ a, a ≠ 0 → M1 a = M a) (fun n x M1 kk hx h => ?_) (fun n M1 kk h => ?_) 8 N 0 M kk (by omega) (by omega) ⟨hj, fun _ _ => rfl, fun _ _ => rfl⟩
  · obtain ⟨hJ, hI, hne⟩ := h
    have eb := msk_bit γ hx
    show ∃ s', _ ∧ f_X9_enterAlarms_L2 0 (nI (msk γ 8)) (n + 1) (nI x) M1 kk = f_X9_enterAlarms_L2 0 (nI (msk γ 8)) n (nI (x + 1)) s' kk
    rw [f_X9_enterAlarms_L2.eq_2]
    have e6 : M1 0 6 0 = nI (lgs γ x 11) := by rw [hI 6 (by decide), h11, lgs_ne h14 (by decide) (by decide)]
    by_cases ha : isAl γ x = true
    · obtain ⟨⟨⟩, M2, e, q1, q2, q3⟩ := c_enter (k := 97) (w := x) hJ (lgs_14 h14 x) (by decide)
      refine ⟨M2, ⟨?_, fun i h => by rw [q2 i h, hI i h], fun a h => by rw [q3 a h, hne a h]⟩, ?_⟩
      · show Rj (M2 0) (if isAl γ x then sLog (lgs γ x) 97 x else lgs γ x)
        rw [ha]
        exact q1
      · rw [ha] at eb
        simp (disch := omega) only [lit_0, lit_1, lit_2, lit_3, lit_4, lit_5, lit_6, lit_7, lit_8, lit_9, lit_10, lit_11, lit_12, lit_13, lit_14, lit_15, lit_16, lit_20, lit_23, lit_24, lit_31, lit_32, lit_39, lit_43, lit_45, lit_47, lit_48, lit_56, lit_57, lit_59, lit_60, lit_62, lit_63, lit_89, lit_92, lit_96, lit_97, lit_99, lit_100, lit_102, lit_103, lit_104, lit_110, lit_111, lit_115, lit_117, lit_194, lit_200, lit_644, lit_736, lit_999, lit_1000, lit_9999, lit_10000, lit_1000000000, ↓wp_mlet, ↓wp_mbp, ↓wp_ite, ↓wp_mix, ↓wp_mdiv, ↓wp_mnz, ↓wp_some, ↓wp_mbnd, ↓mlet_eq, ↓mbp_eq, ↓mbnd_eq, ↓mix_ite, ↓mdiv_ite, ↓mnz_ite, nI_add, nI_mul, nI_nat, nI_ltE, nI_leE, nI_eqE, nI_eqN, nI_Neq, nI_Nlt, nI_Nle, nI_ltN, nI_leN, ↓reduceIte, ↓Nat.reduceEqDiff, and_f, nt_e, nt_t, nl_t, nl_f, ne_t, ne_f, and_self, or_self, or_true, true_or, or_false, false_or, if_true, if_false, and_true, true_and, and_false, false_and, not_true, not_false_iff, eb, e6, e, Bool.toNat_true]
    · have ha' : isAl γ x = false := by simpa using ha
      refine ⟨M1, ⟨?_, hI, hne⟩, ?_⟩
      · show Rj (M1 0) (if isAl γ x then sLog (lgs γ x) 97 x else lgs γ x)
        rw [ha']
        exact hJ
      · rw [ha'] at eb
        simp (disch := omega) only [lit_0, lit_1, lit_2, lit_3, lit_4, lit_5, lit_6, lit_7, lit_8, lit_9, lit_10, lit_11, lit_12, lit_13, lit_14, lit_15, lit_16, lit_20, lit_23, lit_24, lit_31, lit_32, lit_39, lit_43, lit_45, lit_47, lit_48, lit_56, lit_57, lit_59, lit_60, lit_62, lit_63, lit_89, lit_92, lit_96, lit_97, lit_99, lit_100, lit_102, lit_103, lit_104, lit_110, lit_111, lit_115, lit_117, lit_194, lit_200, lit_644, lit_736, lit_999, lit_1000, lit_9999, lit_10000, lit_1000000000, ↓wp_mlet, ↓wp_mbp, ↓wp_ite, ↓wp_mix, ↓wp_mdiv, ↓wp_mnz, ↓wp_some, ↓wp_mbnd, ↓mlet_eq, ↓mbp_eq, ↓mbnd_eq, ↓mix_ite, ↓mdiv_ite, ↓mnz_ite, nI_add, nI_mul, nI_nat, nI_ltE, nI_leE, nI_eqE, nI_eqN, nI_Neq, nI_Nlt, nI_Nle, nI_ltN, nI_leN, ↓reduceIte, ↓Nat.reduceEqDiff, and_f, nt_e, nt_t, nl_t, nl_f, ne_t, ne_f, and_self, or_self, or_true, true_or, or_false, false_or, if_true, if_false, and_true, true_and, and_false, false_and, not_true, not_false_iff, eb, Bool.toNat_false]
  · show f_X9_enterAlarms_L2 0 (nI (msk γ 8)) (n + 1) (nI 8) M1 kk = kk M1
    rw [f_X9_enterAlarms_L2.eq_2]
    simp (disch := omega) only [lit_0, lit_1, lit_2, lit_3, lit_4, lit_5, lit_6, lit_7, lit_8, lit_9, lit_10, lit_11, lit_12, lit_13, lit_14, lit_15, lit_16, lit_20, lit_23, lit_24, lit_31, lit_32, lit_39, lit_43, lit_45, lit_47, lit_48, lit_56, lit_57, lit_59, lit_60, lit_62, lit_63, lit_89, lit_92, lit_96, lit_97, lit_99, lit_100, lit_102, lit_103, lit_104, lit_110, lit_111, lit_115, lit_117, lit_194, lit_200, lit_644, lit_736, lit_999, lit_1000, lit_9999, lit_10000, lit_1000000000, ↓wp_mlet, ↓wp_mbp, ↓wp_ite, ↓wp_mix, ↓wp_mdiv, ↓wp_mnz, ↓wp_some, ↓wp_mbnd, ↓mlet_eq, ↓mbp_eq, ↓mbnd_eq, ↓mix_ite, ↓mdiv_ite, ↓mnz_ite, nI_add, nI_mul, nI_nat, nI_ltE, nI_leE, nI_eqE, nI_eqN, nI_Neq, nI_Nlt, nI_Nle, nI_ltN, nI_leN, ↓reduceIte, ↓Nat.reduceEqDiff, and_f, nt_e, nt_t, nl_t, nl_f, ne_t, ne_f, and_self, or_self, or_true, true_or, or_false, false_or, if_true, if_false, and_true, true_and, and_false, false_and, not_true, not_false_iff]
theorem hourSp_hz {α : Sp} {j : Nat} (h : j ≠ 7) (h2 : ¬ (j = 14 ∨ 56 ≤ j ∧ j < 92)) : hourSp α j = hz (walkSp α) 8 j := by
  unfold hourSp
  rw [up_at, if_neg h, hT_at, if_neg h2]
theorem hourSp_k {α : Sp} {j : Nat} (h10 : α 10 ≤ 3) (h : j < 7 ∨ 8 ≤ j ∧ j ≤ 10 ∨ j = 12 ∨ 15 ≤ j ∧ j < 31) : hourSp α j = α j := by
  rw [hourSp_hz (by omega) (by omega), hz_at, if_neg (by omega), if_neg (by omega), if_neg (by omega), walkSp_ne (by omega) (by omega) h10]
theorem hourSp_lg {α : Sp} {j : Nat} (h2 : j = 14 ∨ 56 ≤ j ∧ j < 92) : hourSp α j = lgs (walkSp α) 8 j := by
  unfold hourSp
  rw [up_at, if_neg (by omega), hT_at, if_pos h2]
theorem hourSp_7 {α : Sp} (h10 : α 10 ≤ 3) : hourSp α 7 = α 7 - 1 := by
  unfold hourSp
  rw [up_at, if_pos rfl, walkSp_ne (by decide) (by decide) h10]
/-- an hour of the class, as passHours has it -/
theorem c_hour {M : Mem} {α : Sp} {H : Nat} {Q : Unit → Mem → Prop} (hR : RC (M 0) α) (hi : Inv H α) (hH : H < 999999) (hQ : ∀ M1, RC (M1 0) (hourSp α) → (∀ a, a ≠ 0 → M1 a = M a) → (∀ i, M1 0 0 i = M 0 0 i) → Q () M1) :
    wp (f_X1_passOneHour 0 M) (fun r7 M8 => wp (f_X9_enterAlarms 0 r7 M8) (fun _ M10 => wp (f_X3_passOneHour 0 M10) Q)) := by
  obtain ⟨hk, hd, hb, hj⟩ := hR
  have hw := c_bhour hb hi hH
  obtain ⟨⟨b0, b1, b2, b3, b4, b5, b6, b7, b8, b9, b10, b11, b14⟩, -, -, bs, bk, -, bz, -, bg, -⟩ := hi
  refine wp_mono hw ?_
  rintro r M1 ⟨rfl, h1, h2, h3⟩
  unfold f_X9_enterAlarms
  generalize hN : (1000 : Nat) = N
  have w14 : walkSp α 14 = α 14 := walkSp_ne (by decide) (by decide) b10
  have hj1 : Rj (M1 0) (walkSp α) := Rj.of (fun i q1 q2 => h2 i (by omega)) (fun j q => walkSp_ne (by omega) (by omega) b10) hj
  have e11 : M1 0 6 0 = nI (walkSp α 11) := by
    rw [h1.1, hz_g (by decide) (by decide)]
  obtain ⟨M2, ⟨k1, k2, k3⟩, e2⟩ := c_alarms (δ := α) hN hj1 (by rw [w14]; exact b14) e11 (fun M10 => some ((), M10))
  simp only [lit_0, lit_1, lit_2, lit_3, lit_4, lit_5, lit_6, lit_7, lit_8, lit_9, lit_10, lit_11, lit_12, lit_13, lit_14, lit_15, lit_16, lit_20, lit_23, lit_24, lit_31, lit_32, lit_39, lit_43, lit_45, lit_47, lit_48, lit_56, lit_57, lit_59, lit_60, lit_62, lit_63, lit_89, lit_92, lit_96, lit_97, lit_99, lit_100, lit_102, lit_103, lit_104, lit_110, lit_111, lit_115, lit_117, lit_194, lit_200, lit_644, lit_736, lit_999, lit_1000, lit_9999, lit_10000, lit_1000000000]
  rw [e2, wp_some]
  unfold f_X3_passOneHour
  have e7 : M2 0 5 1 = nI (α 7) := by rw [k2 5 (by decide), h2 5 (by decide)]; exact hd.2.1
  have fin : ∀ M3 : Mem, (∀ i, i ≠ 5 → M3 0 i = M2 0 i) → (∀ k, k ≠ 1 → M3 0 5 k = M2 0 5 k) → M3 0 5 1 = nI (α 7 - 1) → (∀ a, a ≠ 0 → M3 a = M2 a) → Q () M3 := by
    intro M3 q1 q2 q3 q4
    refine hQ M3 ⟨?_, ?_, ?_, ?_⟩ (fun a h => by rw [q4 a h, k3 a h, h3 a h]) (fun i => by rw [q1 0 (by decide), k2 0 (by decide), h2 0 (by decide)])
    · exact Rk.of (fun i _ _ => by rw [q1 i (by omega), k2 i (by omega), h2 i (by omega)]) (fun j q => hourSp_k b10 (by omega)) hk
    · refine ⟨?_, ?_, ?_, ?_⟩
      · rw [q2 0 (by decide), k2 5 (by decide), h2 5 (by decide), hourSp_k b10 (by omega)]; exact hd.1
      · rw [q3, hourSp_7 b10]
      · rw [q2 2 (by decide), k2 5 (by decide), h2 5 (by decide), hourSp_k b10 (by omega)]; exact hd.2.2.1
      · rw [q2 3 (by decide), k2 5 (by decide), h2 5 (by decide), hourSp_k b10 (by omega)]; exact hd.2.2.2
    · exact Rb.of (fun i _ _ => by rw [q1 i (by omega), k2 i (by omega)]) (fun j q => hourSp_hz (by omega) (by omega)) h1
    · exact Rj.of (fun i _ _ => q1 i (by omega)) (fun j q => hourSp_lg (by omega)) k1
  by_cases q : α 7 = 0
  · simp (disch := omega) only [lit_0, lit_1, lit_2, lit_3, lit_4, lit_5, lit_6, lit_7, lit_8, lit_9, lit_10, lit_11, lit_12, lit_13, lit_14, lit_15, lit_16, lit_20, lit_23, lit_24, lit_31, lit_32, lit_39, lit_43, lit_45, lit_47, lit_48, lit_56, lit_57, lit_59, lit_60, lit_62, lit_63, lit_89, lit_92, lit_96, lit_97, lit_99, lit_100, lit_102, lit_103, lit_104, lit_110, lit_111, lit_115, lit_117, lit_194, lit_200, lit_644, lit_736, lit_999, lit_1000, lit_9999, lit_10000, lit_1000000000, ↓wp_mlet, ↓wp_mbp, ↓wp_ite, ↓wp_mix, ↓wp_mdiv, ↓wp_mnz, ↓wp_some, ↓wp_mbnd, ↓mlet_eq, ↓mbp_eq, ↓mbnd_eq, ↓mix_ite, ↓mdiv_ite, ↓mnz_ite, nI_add, nI_mul, nI_nat, nI_ltE, nI_leE, nI_eqE, nI_eqN, nI_Neq, nI_Nlt, nI_Nle, nI_ltN, nI_leN, ↓reduceIte, ↓Nat.reduceEqDiff, and_f, nt_e, nt_t, nl_t, nl_f, ne_t, ne_f, and_self, or_self, or_true, true_or, or_false, false_or, if_true, if_false, and_true, true_and, and_false, false_and, not_true, not_false_iff, e7, q]
    exact fin M2 (fun _ _ => rfl) (fun _ _ => rfl) (by rw [e7, q]) (fun _ _ => rfl)
  · simp (disch := omega) only [lit_0, lit_1, lit_2, lit_3, lit_4, lit_5, lit_6, lit_7, lit_8, lit_9, lit_10, lit_11, lit_12, lit_13, lit_14, lit_15, lit_16, lit_20, lit_23, lit_24, lit_31, lit_32, lit_39, lit_43, lit_45, lit_47, lit_48, lit_56, lit_57, lit_59, lit_60, lit_62, lit_63, lit_89, lit_92, lit_96, lit_97, lit_99, lit_100, lit_102, lit_103, lit_104, lit_110, lit_111, lit_115, lit_117, lit_194, lit_200, lit_644, lit_736, lit_999, lit_1000, lit_9999, lit_10000, lit_1000000000, ↓wp_mlet, ↓wp_mbp, ↓wp_ite, ↓wp_mix, ↓wp_mdiv, ↓wp_mnz, ↓wp_some, ↓wp_mbnd, ↓mlet_eq, ↓mbp_eq, ↓mbnd_eq, ↓mix_ite, ↓mdiv_ite, ↓mnz_ite, nI_add, nI_mul, nI_nat, nI_ltE, nI_leE, nI_eqE, nI_eqN, nI_Neq, nI_Nlt, nI_Nle, nI_ltN, nI_leN, ↓reduceIte, ↓Nat.reduceEqDiff, and_f, nt_e, nt_t, nl_t, nl_f, ne_t, ne_f, and_self, or_self, or_true, true_or, or_false, false_or, if_true, if_false, and_true, true_and, and_false, false_and, not_true, not_false_iff, e7, nI_subE]
    exact fin _ (fun i h => by rw [pm_ne (by omega)]) (fun k h => by rw [mup_at, if_neg (by omega)]) (by rw [mup_at, if_pos (by decide)]) (fun a h => pm_g h)
/-- the bounds an hour later -/
theorem inv_hour {α : Sp} {H : Nat} (hi : Inv H α) (hH : H < 999999) : Inv (H + 1) (hourSp α) := by
  have g2 := Gd_walk hi hH
  obtain ⟨⟨b0, b1, b2, b3, b4, b5, b6, b7, b8, b9, b10, b11, b14⟩, i1, i2, bs, bk, bn, bz, bt, bg, bl⟩ := hi
  have w14 : walkSp α 14 = α 14 := walkSp_ne (by decide) (by decide) b10
  have kz : ∀ z, z < 8 → (isAl (walkSp α) z).toNat ≤ 1 := fun z _ => by cases isAl (walkSp α) z <;> decide
  have e11 : hourSp α 11 = α 11 + 1 := by rw [hourSp_hz (by decide) (by decide), hz_g (by decide) (by decide), walkSp_11]
  have eA : ∀ k, k < 8 → hourSp α (39 + k) = α (39 + k) + (isAl (walkSp α) k).toNat := fun k hk => by
    rw [hourSp_hz (by omega) (by omega), hz_at, if_neg (by omega), if_neg (by omega), if_pos (by omega), walkSp_ne (by omega) (by omega) b10, show 39 + k - 39 = k by omega]
  have e13 : hourSp α 13 = α 13 + cntA (walkSp α) 8 := by rw [hourSp_hz (by decide) (by decide), hz_at, if_pos rfl, walkSp_ne (by decide) (by decide) b10]
  refine ⟨⟨?_, ?_, ?_, ?_, ?_, ?_, ?_, ?_, ?_, ?_, ?_, ?_, ?_⟩, ?_, ?_, fun k hk => ?_, fun k hk => ?_, fun i k h1 hk => ?_, fun k hk => ?_, ?_, fun k hk => ?_, fun k hk => ?_⟩
  · rw [hourSp_k b10 (by omega)]; exact b0
  · rw [hourSp_k b10 (by omega)]; exact b1
  · rw [hourSp_k b10 (by omega)]; exact b2
  · rw [hourSp_k b10 (by omega)]; exact b3
  · rw [hourSp_k b10 (by omega)]; exact b4
  · rw [hourSp_k b10 (by omega)]; exact b5
  · rw [hourSp_k b10 (by omega)]; exact b6
  · rw [hourSp_7 b10]; omega
  · rw [hourSp_k b10 (by omega)]; exact b8
  · rw [hourSp_k b10 (by omega), hourSp_k b10 (by omega)]; exact b9
  · rw [hourSp_k b10 (by omega)]; exact b10
  · rw [e11]; omega
  · rw [hourSp_lg (by omega)]; exact lgs_14 (by rw [w14]; exact b14) 8
  · rw [hourSp_k b10 (by omega), hourSp_k b10 (by omega), hourSp_k b10 (by omega)]; exact i1
  · rw [hourSp_k b10 (by omega), hourSp_k b10 (by omega)]; exact i2
  · rw [hourSp_k b10 (by omega)]; exact bs k hk
  · rw [hourSp_k b10 (by omega)] at hk
    rw [hourSp_k b10 (by omega), hourSp_k b10 (by omega)]; exact bk k hk
  · rw [hourSp_k b10 (by omega)] at hk
    rw [hourSp_k b10 (by omega), hourSp_k b10 (by omega)]; exact bn i k h1 hk
  · refine ⟨?_, ?_⟩
    · rw [hourSp_hz (by omega) (by omega), hz_at, if_neg (by omega), if_pos (by omega), show 31 + k - 31 = k by omega]
      unfold nzV
      rw [walkSp_ne (by omega) (by omega) b10]
      have := (bz k hk).1
      split <;> omega
    · rw [eA k hk, e11]
      have := (bz k hk).2
      have := kz k hk
      omega
  · have A0 : hourSp α 39 = α 39 + (isAl (walkSp α) 0).toNat := eA 0 (by decide)
    have A1 : hourSp α 40 = α 40 + (isAl (walkSp α) 1).toNat := eA 1 (by decide)
    have A2 : hourSp α 41 = α 41 + (isAl (walkSp α) 2).toNat := eA 2 (by decide)
    have A3 : hourSp α 42 = α 42 + (isAl (walkSp α) 3).toNat := eA 3 (by decide)
    have A4 : hourSp α 43 = α 43 + (isAl (walkSp α) 4).toNat := eA 4 (by decide)
    have A5 : hourSp α 44 = α 44 + (isAl (walkSp α) 5).toNat := eA 5 (by decide)
    have A6 : hourSp α 45 = α 45 + (isAl (walkSp α) 6).toNat := eA 6 (by decide)
    have A7 : hourSp α 46 = α 46 + (isAl (walkSp α) 7).toNat := eA 7 (by decide)
    rw [e13, A0, A1, A2, A3, A4, A5, A6, A7, bt]
    show α 39 + α 40 + α 41 + α 42 + α 43 + α 44 + α 45 + α 46 + (0 + (isAl (walkSp α) 0).toNat + (isAl (walkSp α) 1).toNat + (isAl (walkSp α) 2).toNat + (isAl (walkSp α) 3).toNat + (isAl (walkSp α) 4).toNat + (isAl (walkSp α) 5).toNat + (isAl (walkSp α) 6).toNat + (isAl (walkSp α) 7).toNat) = _
    omega
  · rw [hourSp_k b10 (by omega)] at hk
    have q := g2.2.2 k (by rw [walkSp_ne (by decide) (by decide) b10]; exact hk)
    rw [hourSp_hz (by omega) (by omega), hz_g (by omega) (by omega), hourSp_hz (by omega) (by omega), hz_g (by omega) (by omega), hourSp_hz (by omega) (by omega), hz_g (by omega) (by omega)]
    exact q
  · have hl : LI (walkSp α) := fun i hi => by
      rw [w14] at hi
      rw [walkSp_ne (j := 56 + 3 * i) (by omega) (by omega) b10, walkSp_ne (j := 57 + 3 * i) (by omega) (by omega) b10, walkSp_ne (j := 58 + 3 * i) (by omega) (by omega) b10, walkSp_11]
      have := bl i hi
      exact ⟨by omega, this.2⟩
    have hl8 := LI_lgs (by rw [w14]; exact b14) hl 8 (by decide)
    have h14 := lgs_14 (γ := walkSp α) (by rw [w14]; exact b14) 8
    rw [hourSp_lg (by omega)] at hk
    rw [hourSp_lg (j := 56 + 3 * k) (by omega), hourSp_lg (j := 57 + 3 * k) (by omega), hourSp_lg (j := 58 + 3 * k) (by omega), e11]
    have := hl8 k hk
    rw [lgs_ne (j := 11) (by rw [w14]; exact b14) (by decide) (by decide), walkSp_11] at this
    exact this
/-! hours, one after the other -/
def hrs (α : Sp) : Nat → Sp
  | 0 => α
  | n + 1 => hourSp (hrs α n)
def hrsN (α : Sp) : Nat → Nat
  | 0 => 0
  | n + 1 => hrsN α n + cntA (walkSp (hrs α n)) 8
theorem inv_hrs {α : Sp} {H : Nat} (hi : Inv H α) : ∀ n, H + n < 999999 → Inv (H + n) (hrs α n) := by
  intro n
  induction n with
  | zero => intro _; exact hi
  | succ n ih =>
    intro h
    exact inv_hour (H := H + n) (ih (by omega)) (by omega)
theorem hrs_13 {α : Sp} {H : Nat} (hi : Inv H α) : ∀ n, H + n < 999999 → hrs α n 13 = α 13 + hrsN α n := by
  intro n
  induction n with
  | zero => intro _; rfl
  | succ n ih =>
    intro h
    have hn := inv_hrs hi n (by omega)
    show hourSp (hrs α n) 13 = α 13 + (hrsN α n + cntA (walkSp (hrs α n)) 8)
    rw [hourSp_hz (by decide) (by decide), hz_at, if_pos rfl, walkSp_ne (by decide) (by decide) hn.1.2.2.2.2.2.2.2.2.2.2.1, ih (by omega)]
    omega
def sHours (α : Sp) (a1 : Int32) : Ex := if rng1 a1 24 then .inr (hrsN α a1.toNatClampNeg, hrs α a1.toNatClampNeg) else .inl (21, 0)
theorem c_hours {M : Mem} {α : Sp} {H : Nat} (hR : RC (M 0) α) (hi : Inv H α) (hH : H < 900000) (a1 : Int32) : CT M 0 (sHours α a1) (f_X9_tryHours 0 a1 M) := by
  unfold sHours f_X9_tryHours
  generalize hN : (1000 : Nat) = N
  rcases rng1_c a1 24 with ⟨n, h1, h2, rfl, e⟩ | ⟨e, h4⟩
  case inr =>
    rcases h4 with h4 | ⟨j, hj, h4, rfl⟩
    · simp (disch := omega) only [lit_0, lit_1, lit_2, lit_3, lit_4, lit_5, lit_6, lit_7, lit_8, lit_9, lit_10, lit_11, lit_12, lit_13, lit_14, lit_15, lit_16, lit_20, lit_23, lit_24, lit_31, lit_32, lit_39, lit_43, lit_45, lit_47, lit_48, lit_56, lit_57, lit_59, lit_60, lit_62, lit_63, lit_89, lit_92, lit_96, lit_97, lit_99, lit_100, lit_102, lit_103, lit_104, lit_110, lit_111, lit_115, lit_117, lit_194, lit_200, lit_644, lit_736, lit_999, lit_1000, lit_9999, lit_10000, lit_1000000000, ↓wp_mlet, ↓wp_mbp, ↓wp_ite, ↓wp_mix, ↓wp_mdiv, ↓wp_mnz, ↓wp_some, ↓wp_mbnd, ↓mlet_eq, ↓mbp_eq, ↓mbnd_eq, ↓mix_ite, ↓mdiv_ite, ↓mnz_ite, nI_add, nI_mul, nI_nat, nI_ltE, nI_leE, nI_eqE, nI_eqN, nI_Neq, nI_Nlt, nI_Nle, nI_ltN, nI_leN, ↓reduceIte, ↓Nat.reduceEqDiff, and_f, nt_e, nt_t, nl_t, nl_f, ne_t, ne_f, and_self, or_self, or_true, true_or, or_false, false_or, if_true, if_false, and_true, true_and, and_false, false_and, not_true, not_false_iff, toNat_0, Bool.false_and, Bool.true_and, Bool.and_false, Bool.and_true, Bool.false_eq_true, reduceCtorEq, Bool.true_eq_false, Bool.not_true, Bool.not_false, e, (neg_of h4 (n := 1) (by decide)).2.1]
      exact CT_21
    · rcases h4 with h4 | h4
      · simp (disch := omega) only [lit_0, lit_1, lit_2, lit_3, lit_4, lit_5, lit_6, lit_7, lit_8, lit_9, lit_10, lit_11, lit_12, lit_13, lit_14, lit_15, lit_16, lit_20, lit_23, lit_24, lit_31, lit_32, lit_39, lit_43, lit_45, lit_47, lit_48, lit_56, lit_57, lit_59, lit_60, lit_62, lit_63, lit_89, lit_92, lit_96, lit_97, lit_99, lit_100, lit_102, lit_103, lit_104, lit_110, lit_111, lit_115, lit_117, lit_194, lit_200, lit_644, lit_736, lit_999, lit_1000, lit_9999, lit_10000, lit_1000000000, ↓wp_mlet, ↓wp_mbp, ↓wp_ite, ↓wp_mix, ↓wp_mdiv, ↓wp_mnz, ↓wp_some, ↓wp_mbnd, ↓mlet_eq, ↓mbp_eq, ↓mbnd_eq, ↓mix_ite, ↓mdiv_ite, ↓mnz_ite, nI_add, nI_mul, nI_nat, nI_ltE, nI_leE, nI_eqE, nI_eqN, nI_Neq, nI_Nlt, nI_Nle, nI_ltN, nI_leN, ↓reduceIte, ↓Nat.reduceEqDiff, and_f, nt_e, nt_t, nl_t, nl_f, ne_t, ne_f, and_self, or_self, or_true, true_or, or_false, false_or, if_true, if_false, and_true, true_and, and_false, false_and, not_true, not_false_iff, toNat_0, Bool.false_and, Bool.true_and, Bool.and_false, Bool.and_true, Bool.false_eq_true, reduceCtorEq, Bool.true_eq_false, Bool.not_true, Bool.not_false, e]
        exact CT_21
      · simp (disch := omega) only [lit_0, lit_1, lit_2, lit_3, lit_4, lit_5, lit_6, lit_7, lit_8, lit_9, lit_10, lit_11, lit_12, lit_13, lit_14, lit_15, lit_16, lit_20, lit_23, lit_24, lit_31, lit_32, lit_39, lit_43, lit_45, lit_47, lit_48, lit_56, lit_57, lit_59, lit_60, lit_62, lit_63, lit_89, lit_92, lit_96, lit_97, lit_99, lit_100, lit_102, lit_103, lit_104, lit_110, lit_111, lit_115, lit_117, lit_194, lit_200, lit_644, lit_736, lit_999, lit_1000, lit_9999, lit_10000, lit_1000000000, ↓wp_mlet, ↓wp_mbp, ↓wp_ite, ↓wp_mix, ↓wp_mdiv, ↓wp_mnz, ↓wp_some, ↓wp_mbnd, ↓mlet_eq, ↓mbp_eq, ↓mbnd_eq, ↓mix_ite, ↓mdiv_ite, ↓mnz_ite, nI_add, nI_mul, nI_nat, nI_ltE, nI_leE, nI_eqE, nI_eqN, nI_Neq, nI_Nlt, nI_Nle, nI_ltN, nI_leN, ↓reduceIte, ↓Nat.reduceEqDiff, and_f, nt_e, nt_t, nl_t, nl_f, ne_t, ne_f, and_self, or_self, or_true, true_or, or_false, false_or, if_true, if_false, and_true, true_and, and_false, false_and, not_true, not_false_iff, toNat_0, Bool.false_and, Bool.true_and, Bool.and_false, Bool.and_true, Bool.false_eq_true, reduceCtorEq, Bool.true_eq_false, Bool.not_true, Bool.not_false, e]
        exact CT_21
  simp (disch := omega) only [lit_0, lit_1, lit_2, lit_3, lit_4, lit_5, lit_6, lit_7, lit_8, lit_9, lit_10, lit_11, lit_12, lit_13, lit_14, lit_15, lit_16, lit_20, lit_23, lit_24, lit_31, lit_32, lit_39, lit_43, lit_45, lit_47, lit_48, lit_56, lit_57, lit_59, lit_60, lit_62, lit_63, lit_89, lit_92, lit_96, lit_97, lit_99, lit_100, lit_102, lit_103, lit_104, lit_110, lit_111, lit_115, lit_117, lit_194, lit_200, lit_644, lit_736, lit_999, lit_1000, lit_9999, lit_10000, lit_1000000000, ↓wp_mlet, ↓wp_mbp, ↓wp_ite, ↓wp_mix, ↓wp_mdiv, ↓wp_mnz, ↓wp_some, ↓wp_mbnd, ↓mlet_eq, ↓mbp_eq, ↓mbnd_eq, ↓mix_ite, ↓mdiv_ite, ↓mnz_ite, nI_add, nI_mul, nI_nat, nI_ltE, nI_leE, nI_eqE, nI_eqN, nI_Neq, nI_Nlt, nI_Nle, nI_ltN, nI_leN, ↓reduceIte, ↓Nat.reduceEqDiff, and_f, nt_e, nt_t, nl_t, nl_f, ne_t, ne_f, and_self, or_self, or_true, true_or, or_false, false_or, if_true, if_false, and_true, true_and, and_false, false_and, not_true, not_false_iff, e]
  have e13 : M 0 6 3 = nI (α 13) := hR.2.2.1.2.1
  have key := mloopP (F := fun m x s kk => f_X9_tryHours_L24 0 (nI n) m x s kk) (c := n) (fun x M1 => RC (M1 0) (hrs α x) ∧ (∀ a, a ≠ 0 → M1 a = M a)) (fun m x M1 kk hx h => by
    obtain ⟨hR1, hne⟩ := h
    have hi1 := inv_hrs hi x (by omega)
    have hw := c_hour (Q := fun _ M2 => RC (M2 0) (hrs α (x + 1)) ∧ (∀ a, a ≠ 0 → M2 a = M a)) hR1 hi1 (by omega) (fun M2 q1 q2 _ => ⟨q1, fun a h => by rw [q2 a h, hne a h]⟩)
    obtain ⟨r1, M2, w1, r2, M3, w2, r3, M4, w3, w4⟩ := hw
    refine ⟨M4, w4, ?_⟩
    show f_X9_tryHours_L24 0 (nI n) (m + 1) (nI x) M1 kk = f_X9_tryHours_L24 0 (nI n) m (nI (x + 1)) M4 kk
    rw [f_X9_tryHours_L24.eq_2, w1]
    simp (disch := omega) only [lit_0, lit_1, lit_2, lit_3, lit_4, lit_5, lit_6, lit_7, lit_8, lit_9, lit_10, lit_11, lit_12, lit_13, lit_14, lit_15, lit_16, lit_20, lit_23, lit_24, lit_31, lit_32, lit_39, lit_43, lit_45, lit_47, lit_48, lit_56, lit_57, lit_59, lit_60, lit_62, lit_63, lit_89, lit_92, lit_96, lit_97, lit_99, lit_100, lit_102, lit_103, lit_104, lit_110, lit_111, lit_115, lit_117, lit_194, lit_200, lit_644, lit_736, lit_999, lit_1000, lit_9999, lit_10000, lit_1000000000, ↓wp_mlet, ↓wp_mbp, ↓wp_ite, ↓wp_mix, ↓wp_mdiv, ↓wp_mnz, ↓wp_some, ↓wp_mbnd, ↓mlet_eq, ↓mbp_eq, ↓mbnd_eq, ↓mix_ite, ↓mdiv_ite, ↓mnz_ite, nI_add, nI_mul, nI_nat, nI_ltE, nI_leE, nI_eqE, nI_eqN, nI_Neq, nI_Nlt, nI_Nle, nI_ltN, nI_leN, ↓reduceIte, ↓Nat.reduceEqDiff, and_f, nt_e, nt_t, nl_t, nl_f, ne_t, ne_f, and_self, or_self, or_true, true_or, or_false, false_or, if_true, if_false, and_true, true_and, and_false, false_and, not_true, not_false_iff, w2, w3]) (fun m M1 kk h => by
    show f_X9_tryHours_L24 0 (nI n) (m + 1) (nI n) M1 kk = kk M1
    rw [f_X9_tryHours_L24.eq_2]
    simp (disch := omega) only [lit_0, lit_1, lit_2, lit_3, lit_4, lit_5, lit_6, lit_7, lit_8, lit_9, lit_10, lit_11, lit_12, lit_13, lit_14, lit_15, lit_16, lit_20, lit_23, lit_24, lit_31, lit_32, lit_39, lit_43, lit_45, lit_47, lit_48, lit_56, lit_57, lit_59, lit_60, lit_62, lit_63, lit_89, lit_92, lit_96, lit_97, lit_99, lit_100, lit_102, lit_103, lit_104, lit_110, lit_111, lit_115, lit_117, lit_194, lit_200, lit_644, lit_736, lit_999, lit_1000, lit_9999, lit_10000, lit_1000000000, ↓wp_mlet, ↓wp_mbp, ↓wp_ite, ↓wp_mix, ↓wp_mdiv, ↓wp_mnz, ↓wp_some, ↓wp_mbnd, ↓mlet_eq, ↓mbp_eq, ↓mbnd_eq, ↓mix_ite, ↓mdiv_ite, ↓mnz_ite, nI_add, nI_mul, nI_nat, nI_ltE, nI_leE, nI_eqE, nI_eqN, nI_Neq, nI_Nlt, nI_Nle, nI_ltN, nI_leN, ↓reduceIte, ↓Nat.reduceEqDiff, and_f, nt_e, nt_t, nl_t, nl_f, ne_t, ne_f, and_self, or_self, or_true, true_or, or_false, false_or, if_true, if_false, and_true, true_and, and_false, false_and, not_true, not_false_iff]) n N 0 M (fun M14 => some (nI 0, mup M14 0 0 4 (M14 0 6 3 - M 0 6 3))) (by omega) (by omega) ⟨hR, fun _ _ => rfl⟩
  obtain ⟨M1, ⟨hR1, hne⟩, e1⟩ := key
  unfold CT
  rw [e1]
  simp (disch := omega) only [lit_0, lit_1, lit_2, lit_3, lit_4, lit_5, lit_6, lit_7, lit_8, lit_9, lit_10, lit_11, lit_12, lit_13, lit_14, lit_15, lit_16, lit_20, lit_23, lit_24, lit_31, lit_32, lit_39, lit_43, lit_45, lit_47, lit_48, lit_56, lit_57, lit_59, lit_60, lit_62, lit_63, lit_89, lit_92, lit_96, lit_97, lit_99, lit_100, lit_102, lit_103, lit_104, lit_110, lit_111, lit_115, lit_117, lit_194, lit_200, lit_644, lit_736, lit_999, lit_1000, lit_9999, lit_10000, lit_1000000000, ↓wp_mlet, ↓wp_mbp, ↓wp_ite, ↓wp_mix, ↓wp_mdiv, ↓wp_mnz, ↓wp_some, ↓wp_mbnd, ↓mlet_eq, ↓mbp_eq, ↓mbnd_eq, ↓mix_ite, ↓mdiv_ite, ↓mnz_ite, nI_add, nI_mul, nI_nat, nI_ltE, nI_leE, nI_eqE, nI_eqN, nI_Neq, nI_Nlt, nI_Nle, nI_ltN, nI_leN, ↓reduceIte, ↓Nat.reduceEqDiff, and_f, nt_e, nt_t, nl_t, nl_f, ne_t, ne_f, and_self, or_self, or_true, true_or, or_false, false_or, if_true, if_false, and_true, true_and, and_false, false_and, not_true, not_false_iff]
  have q13 : M1 0 6 3 = nI (α 13 + hrsN α n) := by rw [hR1.2.2.1.2.1, hrs_13 hi n (by omega)]
  obtain ⟨hk, hd, hb, hj⟩ := hR1
  refine ⟨⟨?_, ?_, ?_, ?_⟩, ?_, ?_⟩
  · exact Rk.of (fun i _ _ => by rw [pm_ne (by omega)]) (fun _ _ => rfl) hk
  · exact Rd.of (by rw [pm_ne (by omega)]) (fun _ _ => rfl) hd
  · exact Rb.of (fun i _ _ => by rw [pm_ne (by omega)]) (fun _ _ => rfl) hb
  · exact Rj.of (fun i _ _ => by rw [pm_ne (by omega)]) (fun _ _ => rfl) hj
  · rw [mup_at, if_pos (by decide), q13, e13, nI_add_sub]
  · intro a ha
    rw [pm_g ha, hne a ha]
theorem m_passes {M : Mem} {α : Sp} {H : Nat} (hS : M 12 48 = enc α) (hi : Inv H α) (hH : H < 900000) (a1 : Int32) : MT M 1 (sHours α a1) (f_X12_passes a1 M) := by
  unfold sHours f_X12_passes
  generalize hN : (1000 : Nat) = N
  simp only [lit_0, lit_1, lit_2, lit_3, lit_4, lit_5, lit_6, lit_7, lit_8, lit_9, lit_10, lit_11, lit_12, lit_13, lit_14, lit_15, lit_16, lit_20, lit_23, lit_24, lit_31, lit_32, lit_39, lit_43, lit_45, lit_47, lit_48, lit_56, lit_57, lit_59, lit_60, lit_62, lit_63, lit_89, lit_92, lit_96, lit_97, lit_99, lit_100, lit_102, lit_103, lit_104, lit_110, lit_111, lit_115, lit_117, lit_194, lit_200, lit_644, lit_736, lit_999, lit_1000, lit_9999, lit_10000, lit_1000000000]
  rw [rng_1 a1 24 (by decide)]
  rcases rng1_c a1 24 with ⟨n, h1, h2, rfl, e⟩ | ⟨e, h4⟩
  case inr =>
    simp (disch := omega) only [lit_0, lit_1, lit_2, lit_3, lit_4, lit_5, lit_6, lit_7, lit_8, lit_9, lit_10, lit_11, lit_12, lit_13, lit_14, lit_15, lit_16, lit_20, lit_23, lit_24, lit_31, lit_32, lit_39, lit_43, lit_45, lit_47, lit_48, lit_56, lit_57, lit_59, lit_60, lit_62, lit_63, lit_89, lit_92, lit_96, lit_97, lit_99, lit_100, lit_102, lit_103, lit_104, lit_110, lit_111, lit_115, lit_117, lit_194, lit_200, lit_644, lit_736, lit_999, lit_1000, lit_9999, lit_10000, lit_1000000000, ↓wp_mlet, ↓wp_mbp, ↓wp_ite, ↓wp_mix, ↓wp_mdiv, ↓wp_mnz, ↓wp_some, ↓wp_mbnd, ↓mlet_eq, ↓mbp_eq, ↓mbnd_eq, ↓mix_ite, ↓mdiv_ite, ↓mnz_ite, nI_add, nI_mul, nI_nat, nI_ltE, nI_leE, nI_eqE, nI_eqN, nI_Neq, nI_Nlt, nI_Nle, nI_ltN, nI_leN, ↓reduceIte, ↓Nat.reduceEqDiff, and_f, nt_e, nt_t, nl_t, nl_f, ne_t, ne_f, and_self, or_self, or_true, true_or, or_false, false_or, if_true, if_false, and_true, true_and, and_false, false_and, not_true, not_false_iff, toNat_0, Bool.false_and, Bool.true_and, Bool.and_false, Bool.and_true, Bool.false_eq_true, reduceCtorEq, Bool.true_eq_false, Bool.not_true, Bool.not_false, e]
    exact MT_21
  simp (disch := omega) only [lit_0, lit_1, lit_2, lit_3, lit_4, lit_5, lit_6, lit_7, lit_8, lit_9, lit_10, lit_11, lit_12, lit_13, lit_14, lit_15, lit_16, lit_20, lit_23, lit_24, lit_31, lit_32, lit_39, lit_43, lit_45, lit_47, lit_48, lit_56, lit_57, lit_59, lit_60, lit_62, lit_63, lit_89, lit_92, lit_96, lit_97, lit_99, lit_100, lit_102, lit_103, lit_104, lit_110, lit_111, lit_115, lit_117, lit_194, lit_200, lit_644, lit_736, lit_999, lit_1000, lit_9999, lit_10000, lit_1000000000, ↓wp_mlet, ↓wp_mbp, ↓wp_ite, ↓wp_mix, ↓wp_mdiv, ↓wp_mnz, ↓wp_some, ↓wp_mbnd, ↓mlet_eq, ↓mbp_eq, ↓mbnd_eq, ↓mix_ite, ↓mdiv_ite, ↓mnz_ite, nI_add, nI_mul, nI_nat, nI_ltE, nI_leE, nI_eqE, nI_eqN, nI_Neq, nI_Nlt, nI_Nle, nI_ltN, nI_leN, ↓reduceIte, ↓Nat.reduceEqDiff, and_f, nt_e, nt_t, nl_t, nl_f, ne_t, ne_f, and_self, or_self, or_true, true_or, or_false, false_or, if_true, if_false, and_true, true_and, and_false, false_and, not_true, not_false_iff, toNat_0, Bool.false_and, Bool.true_and, Bool.and_false, Bool.and_true, Bool.false_eq_true, reduceCtorEq, Bool.true_eq_false, Bool.not_true, Bool.not_false, e]
  have key := mloopP (F := fun m x (s : Int32 × Mem) kk => f_X12_passes_L16 (nI n) m s.1 x s.2 (fun a b => kk (a, b))) (c := n) (fun x s => s.1 = nI (hrsN α x) ∧ mS M s.2 (hrs α x)) (fun m x s kk hx h => by
    obtain ⟨a, M1⟩ := s
    obtain ⟨q1, q2⟩ := h
    have q1' : a = nI (hrsN α x) := q1
    subst q1'
    have q2' : mS M M1 (hrs α x) := q2
    have hi1 := inv_hrs hi x (by omega)
    obtain ⟨r, M2, w1, w2, w3⟩ := m_hour q2'.1 hi1 (by omega)
    subst w2
    refine ⟨(nI (hrsN α x + cntA (walkSp (hrs α x)) 8), M2), ⟨rfl, q2'.trans w3⟩, ?_⟩
    show f_X12_passes_L16 (nI n) (m + 1) (nI (hrsN α x)) (nI x) M1 (fun a b => kk (a, b)) = f_X12_passes_L16 (nI n) m (nI (hrsN α x + cntA (walkSp (hrs α x)) 8)) (nI (x + 1)) M2 (fun a b => kk (a, b))
    rw [f_X12_passes_L16.eq_2]
    simp (disch := omega) only [lit_0, lit_1, lit_2, lit_3, lit_4, lit_5, lit_6, lit_7, lit_8, lit_9, lit_10, lit_11, lit_12, lit_13, lit_14, lit_15, lit_16, lit_20, lit_23, lit_24, lit_31, lit_32, lit_39, lit_43, lit_45, lit_47, lit_48, lit_56, lit_57, lit_59, lit_60, lit_62, lit_63, lit_89, lit_92, lit_96, lit_97, lit_99, lit_100, lit_102, lit_103, lit_104, lit_110, lit_111, lit_115, lit_117, lit_194, lit_200, lit_644, lit_736, lit_999, lit_1000, lit_9999, lit_10000, lit_1000000000, ↓wp_mlet, ↓wp_mbp, ↓wp_ite, ↓wp_mix, ↓wp_mdiv, ↓wp_mnz, ↓wp_some, ↓wp_mbnd, ↓mlet_eq, ↓mbp_eq, ↓mbnd_eq, ↓mix_ite, ↓mdiv_ite, ↓mnz_ite, nI_add, nI_mul, nI_nat, nI_ltE, nI_leE, nI_eqE, nI_eqN, nI_Neq, nI_Nlt, nI_Nle, nI_ltN, nI_leN, ↓reduceIte, ↓Nat.reduceEqDiff, and_f, nt_e, nt_t, nl_t, nl_f, ne_t, ne_f, and_self, or_self, or_true, true_or, or_false, false_or, if_true, if_false, and_true, true_and, and_false, false_and, not_true, not_false_iff, w1]) (fun m s kk h => by
    obtain ⟨a, M1⟩ := s
    show f_X12_passes_L16 (nI n) (m + 1) a (nI n) M1 (fun a b => kk (a, b)) = kk (a, M1)
    rw [f_X12_passes_L16.eq_2]
    simp (disch := omega) only [lit_0, lit_1, lit_2, lit_3, lit_4, lit_5, lit_6, lit_7, lit_8, lit_9, lit_10, lit_11, lit_12, lit_13, lit_14, lit_15, lit_16, lit_20, lit_23, lit_24, lit_31, lit_32, lit_39, lit_43, lit_45, lit_47, lit_48, lit_56, lit_57, lit_59, lit_60, lit_62, lit_63, lit_89, lit_92, lit_96, lit_97, lit_99, lit_100, lit_102, lit_103, lit_104, lit_110, lit_111, lit_115, lit_117, lit_194, lit_200, lit_644, lit_736, lit_999, lit_1000, lit_9999, lit_10000, lit_1000000000, ↓wp_mlet, ↓wp_mbp, ↓wp_ite, ↓wp_mix, ↓wp_mdiv, ↓wp_mnz, ↓wp_some, ↓wp_mbnd, ↓mlet_eq, ↓mbp_eq, ↓mbnd_eq, ↓mix_ite, ↓mdiv_ite, ↓mnz_ite, nI_add, nI_mul, nI_nat, nI_ltE, nI_leE, nI_eqE, nI_eqN, nI_Neq, nI_Nlt, nI_Nle, nI_ltN, nI_leN, ↓reduceIte, ↓Nat.reduceEqDiff, and_f, nt_e, nt_t, nl_t, nl_f, ne_t, ne_f, and_self, or_self, or_true, true_or, or_false, false_or, if_true, if_false, and_true, true_and, and_false, false_and, not_true, not_false_iff]) n N 0 (nI 0, M) (fun s => mbnd (f_X12_done s.1 s.2) fun r M1 => some (r, M1)) (by omega) (by omega) ⟨rfl, hS, fun _ _ _ => rfl⟩
  obtain ⟨⟨a, M1⟩, ⟨q1, q2⟩, e1⟩ := key
  have q1' : a = nI (hrsN α n) := q1
  subst q1'
  have e1' : (f_X12_passes_L16 (nI n) N (nI 0) (nI 0) M fun a b => mbnd (f_X12_done a b) fun r M1 => some (r, M1)) = mbnd (f_X12_done (nI (hrsN α n)) M1) fun r M1 => some (r, M1) := e1
  unfold MT
  rw [e1']
  unfold f_X12_done
  simp (disch := omega) only [lit_0, lit_1, lit_2, lit_3, lit_4, lit_5, lit_6, lit_7, lit_8, lit_9, lit_10, lit_11, lit_12, lit_13, lit_14, lit_15, lit_16, lit_20, lit_23, lit_24, lit_31, lit_32, lit_39, lit_43, lit_45, lit_47, lit_48, lit_56, lit_57, lit_59, lit_60, lit_62, lit_63, lit_89, lit_92, lit_96, lit_97, lit_99, lit_100, lit_102, lit_103, lit_104, lit_110, lit_111, lit_115, lit_117, lit_194, lit_200, lit_644, lit_736, lit_999, lit_1000, lit_9999, lit_10000, lit_1000000000, ↓wp_mlet, ↓wp_mbp, ↓wp_ite, ↓wp_mix, ↓wp_mdiv, ↓wp_mnz, ↓wp_some, ↓wp_mbnd, ↓mlet_eq, ↓mbp_eq, ↓mbnd_eq, ↓mix_ite, ↓mdiv_ite, ↓mnz_ite, nI_add, nI_mul, nI_nat, nI_ltE, nI_leE, nI_eqE, nI_eqN, nI_Neq, nI_Nlt, nI_Nle, nI_ltN, nI_leN, ↓reduceIte, ↓Nat.reduceEqDiff, and_f, nt_e, nt_t, nl_t, nl_f, ne_t, ne_f, and_self, or_self, or_true, true_or, or_false, false_or, if_true, if_false, and_true, true_and, and_false, false_and, not_true, not_false_iff]
  have q2' : mS M M1 (hrs α n) := q2
  refine ⟨?_, ?_, ?_, ?_⟩
  · rw [pm_ne (by omega)]; exact q2'.1
  · intro k hk
    rw [mup_at, if_neg (by omega), q2'.2 12 47 (by omega)]
  · rw [mup_at, if_pos (by decide)]
  · intro a b hab
    rw [pm_ne (by omega), q2'.2 a b (by omega)]
/-! the vault closed -/
def closeSp (α : Sp) : Sp := fun j => if j = 6 then 0 else if j = 9 then 0 else if 23 ≤ j ∧ j < 31 then 0 else α j
theorem closeSp_at (α : Sp) (j : Nat) : closeSp α j = if j = 6 then 0 else if j = 9 then 0 else if 23 ≤ j ∧ j < 31 then 0 else α j := Eq.trans rfl rfl
def sClose (α : Sp) : Ex := if α 1 = 0 then .inl (3, 0) else if α 6 = 0 then .inl (10, α 8) else .inr (α 9, sLog (closeSp α) 99 0)
/-- what an entry leaves of a state -/
theorem RC_log {G G1 : Nat → Nat → Int32} {β : Sp} {k w : Nat} (h14 : β 14 ≤ 12) (hk : Rk G β) (hd : Rd G β) (hb : Rb G β) (hj : Rj G1 (sLog β k w)) (hi : ∀ i, ¬ (12 ≤ i ∧ i ≤ 15) → G1 i = G i) : RC G1 (sLog β k w) :=
  ⟨Rk.of (fun i _ _ => hi i (by omega)) (fun j q => sLog_ne h14 (by omega) (by omega)) hk, Rd.of (hi 5 (by decide)) (fun j q => sLog_ne h14 (by omega) (by omega)) hd, Rb.of (fun i _ _ => hi i (by omega)) (fun j q => sLog_ne h14 (by omega) (by omega)) hb, hj⟩
theorem c_close {M : Mem} {α : Sp} {H : Nat} (hR : RC (M 0) α) (hi : Inv H α) : CT M 0 (sClose α) (f_X9_tryClose 0 M) := by
  obtain ⟨hk, hd, hb, hj⟩ := hR
  obtain ⟨r0, r1, r3, r5, r2, rc, r4⟩ := id hk
  obtain ⟨⟨b0, b1, b2, b3, b4, b5, b6, b7, b8, b9, b10, b11, b14⟩, -, -, bs, bk, -, -, -, -, -⟩ := hi
  unfold sClose f_X9_tryClose
  by_cases hs : α 1 = 0
  · simp (disch := omega) only [lit_0, lit_1, lit_2, lit_3, lit_4, lit_5, lit_6, lit_7, lit_8, lit_9, lit_10, lit_11, lit_12, lit_13, lit_14, lit_15, lit_16, lit_20, lit_23, lit_24, lit_31, lit_32, lit_39, lit_43, lit_45, lit_47, lit_48, lit_56, lit_57, lit_59, lit_60, lit_62, lit_63, lit_89, lit_92, lit_96, lit_97, lit_99, lit_100, lit_102, lit_103, lit_104, lit_110, lit_111, lit_115, lit_117, lit_194, lit_200, lit_644, lit_736, lit_999, lit_1000, lit_9999, lit_10000, lit_1000000000, ↓wp_mlet, ↓wp_mbp, ↓wp_ite, ↓wp_mix, ↓wp_mdiv, ↓wp_mnz, ↓wp_some, ↓wp_mbnd, ↓mlet_eq, ↓mbp_eq, ↓mbnd_eq, ↓mix_ite, ↓mdiv_ite, ↓mnz_ite, nI_add, nI_mul, nI_nat, nI_ltE, nI_leE, nI_eqE, nI_eqN, nI_Neq, nI_Nlt, nI_Nle, nI_ltN, nI_leN, ↓reduceIte, ↓Nat.reduceEqDiff, and_f, nt_e, nt_t, nl_t, nl_f, ne_t, ne_f, and_self, or_self, or_true, true_or, or_false, false_or, if_true, if_false, and_true, true_and, and_false, false_and, not_true, not_false_iff, r1, hs]
    refine CT_inl rfl fun _ => ?_
    unfold f_X9_detailOf
    simp (disch := omega) only [lit_0, lit_1, lit_2, lit_3, lit_4, lit_5, lit_6, lit_7, lit_8, lit_9, lit_10, lit_11, lit_12, lit_13, lit_14, lit_15, lit_16, lit_20, lit_23, lit_24, lit_31, lit_32, lit_39, lit_43, lit_45, lit_47, lit_48, lit_56, lit_57, lit_59, lit_60, lit_62, lit_63, lit_89, lit_92, lit_96, lit_97, lit_99, lit_100, lit_102, lit_103, lit_104, lit_110, lit_111, lit_115, lit_117, lit_194, lit_200, lit_644, lit_736, lit_999, lit_1000, lit_9999, lit_10000, lit_1000000000, ↓wp_mlet, ↓wp_mbp, ↓wp_ite, ↓wp_mix, ↓wp_mdiv, ↓wp_mnz, ↓wp_some, ↓wp_mbnd, ↓mlet_eq, ↓mbp_eq, ↓mbnd_eq, ↓mix_ite, ↓mdiv_ite, ↓mnz_ite, nI_add, nI_mul, nI_nat, nI_ltE, nI_leE, nI_eqE, nI_eqN, nI_Neq, nI_Nlt, nI_Nle, nI_ltN, nI_leN, ↓reduceIte, ↓Nat.reduceEqDiff, and_f, nt_e, nt_t, nl_t, nl_f, ne_t, ne_f, and_self, or_self, or_true, true_or, or_false, false_or, if_true, if_false, and_true, true_and, and_false, false_and, not_true, not_false_iff]
  · by_cases ho : α 6 = 0
    · simp (disch := omega) only [lit_0, lit_1, lit_2, lit_3, lit_4, lit_5, lit_6, lit_7, lit_8, lit_9, lit_10, lit_11, lit_12, lit_13, lit_14, lit_15, lit_16, lit_20, lit_23, lit_24, lit_31, lit_32, lit_39, lit_43, lit_45, lit_47, lit_48, lit_56, lit_57, lit_59, lit_60, lit_62, lit_63, lit_89, lit_92, lit_96, lit_97, lit_99, lit_100, lit_102, lit_103, lit_104, lit_110, lit_111, lit_115, lit_117, lit_194, lit_200, lit_644, lit_736, lit_999, lit_1000, lit_9999, lit_10000, lit_1000000000, ↓wp_mlet, ↓wp_mbp, ↓wp_ite, ↓wp_mix, ↓wp_mdiv, ↓wp_mnz, ↓wp_some, ↓wp_mbnd, ↓mlet_eq, ↓mbp_eq, ↓mbnd_eq, ↓mix_ite, ↓mdiv_ite, ↓mnz_ite, nI_add, nI_mul, nI_nat, nI_ltE, nI_leE, nI_eqE, nI_eqN, nI_Neq, nI_Nlt, nI_Nle, nI_ltN, nI_leN, ↓reduceIte, ↓Nat.reduceEqDiff, and_f, nt_e, nt_t, nl_t, nl_f, ne_t, ne_f, and_self, or_self, or_true, true_or, or_false, false_or, if_true, if_false, and_true, true_and, and_false, false_and, not_true, not_false_iff, r1, hs, hd.1, ho]
      refine CT_inl rfl fun _ => ?_
      unfold f_X9_detailOf
      simp (disch := omega) only [lit_0, lit_1, lit_2, lit_3, lit_4, lit_5, lit_6, lit_7, lit_8, lit_9, lit_10, lit_11, lit_12, lit_13, lit_14, lit_15, lit_16, lit_20, lit_23, lit_24, lit_31, lit_32, lit_39, lit_43, lit_45, lit_47, lit_48, lit_56, lit_57, lit_59, lit_60, lit_62, lit_63, lit_89, lit_92, lit_96, lit_97, lit_99, lit_100, lit_102, lit_103, lit_104, lit_110, lit_111, lit_115, lit_117, lit_194, lit_200, lit_644, lit_736, lit_999, lit_1000, lit_9999, lit_10000, lit_1000000000, ↓wp_mlet, ↓wp_mbp, ↓wp_ite, ↓wp_mix, ↓wp_mdiv, ↓wp_mnz, ↓wp_some, ↓wp_mbnd, ↓mlet_eq, ↓mbp_eq, ↓mbnd_eq, ↓mix_ite, ↓mdiv_ite, ↓mnz_ite, nI_add, nI_mul, nI_nat, nI_ltE, nI_leE, nI_eqE, nI_eqN, nI_Neq, nI_Nlt, nI_Nle, nI_ltN, nI_leN, ↓reduceIte, ↓Nat.reduceEqDiff, and_f, nt_e, nt_t, nl_t, nl_f, ne_t, ne_f, and_self, or_self, or_true, true_or, or_false, false_or, if_true, if_false, and_true, true_and, and_false, false_and, not_true, not_false_iff, hd.2.2.1]
    · simp (disch := omega) only [lit_0, lit_1, lit_2, lit_3, lit_4, lit_5, lit_6, lit_7, lit_8, lit_9, lit_10, lit_11, lit_12, lit_13, lit_14, lit_15, lit_16, lit_20, lit_23, lit_24, lit_31, lit_32, lit_39, lit_43, lit_45, lit_47, lit_48, lit_56, lit_57, lit_59, lit_60, lit_62, lit_63, lit_89, lit_92, lit_96, lit_97, lit_99, lit_100, lit_102, lit_103, lit_104, lit_110, lit_111, lit_115, lit_117, lit_194, lit_200, lit_644, lit_736, lit_999, lit_1000, lit_9999, lit_10000, lit_1000000000, ↓wp_mlet, ↓wp_mbp, ↓wp_ite, ↓wp_mix, ↓wp_mdiv, ↓wp_mnz, ↓wp_some, ↓wp_mbnd, ↓mlet_eq, ↓mbp_eq, ↓mbnd_eq, ↓mix_ite, ↓mdiv_ite, ↓mnz_ite, nI_add, nI_mul, nI_nat, nI_ltE, nI_leE, nI_eqE, nI_eqN, nI_Neq, nI_Nlt, nI_Nle, nI_ltN, nI_leN, ↓reduceIte, ↓Nat.reduceEqDiff, and_f, nt_e, nt_t, nl_t, nl_f, ne_t, ne_f, and_self, or_self, or_true, true_or, or_false, false_or, if_true, if_false, and_true, true_and, and_false, false_and, not_true, not_false_iff, r1, hs, hd.1, ho, r5]
      unfold CT
      have c14 : closeSp α 14 = α 14 := by rw [closeSp_at, if_neg (by decide), if_neg (by decide), if_neg (by decide)]
      have c11 : closeSp α 11 = α 11 := by rw [closeSp_at, if_neg (by decide), if_neg (by decide), if_neg (by decide)]
      have hk' : Rk ((mup (mup (mup M 0 0 4 (nI (α 9))) 0 1 5 (nI 0)) 0 5 0 (nI 0)) 0) (closeSp α) := by
        refine ⟨?_, ?_, ?_, ?_, fun k hk => ?_, fun k hk => ?_, fun k hk hk9 => ?_⟩
        · simp (disch := omega) only [mup_at, up_at, fil_at, ↓reduceIte, ↓Nat.reduceEqDiff, and_f, nt_e, nt_t, nl_t, nl_f, ne_t, ne_f, and_self, or_self, or_true, true_or, or_false, false_or, if_true, if_false, and_true, true_and, and_false, false_and, not_true, not_false_iff, closeSp_at, r0]
        · simp (disch := omega) only [mup_at, up_at, fil_at, ↓reduceIte, ↓Nat.reduceEqDiff, and_f, nt_e, nt_t, nl_t, nl_f, ne_t, ne_f, and_self, or_self, or_true, true_or, or_false, false_or, if_true, if_false, and_true, true_and, and_false, false_and, not_true, not_false_iff, closeSp_at, r1]
        · simp (disch := omega) only [mup_at, up_at, fil_at, ↓reduceIte, ↓Nat.reduceEqDiff, and_f, nt_e, nt_t, nl_t, nl_f, ne_t, ne_f, and_self, or_self, or_true, true_or, or_false, false_or, if_true, if_false, and_true, true_and, and_false, false_and, not_true, not_false_iff, closeSp_at, r3]
        · simp (disch := omega) only [mup_at, up_at, fil_at, ↓reduceIte, ↓Nat.reduceEqDiff, and_f, nt_e, nt_t, nl_t, nl_f, ne_t, ne_f, and_self, or_self, or_true, true_or, or_false, false_or, if_true, if_false, and_true, true_and, and_false, false_and, not_true, not_false_iff, closeSp_at]
        · simp (disch := omega) only [mup_at, up_at, fil_at, ↓reduceIte, ↓Nat.reduceEqDiff, and_f, nt_e, nt_t, nl_t, nl_f, ne_t, ne_f, and_self, or_self, or_true, true_or, or_false, false_or, if_true, if_false, and_true, true_and, and_false, false_and, not_true, not_false_iff, closeSp_at, r2 k hk]
        · simp (disch := omega) only [mup_at, up_at, fil_at, ↓reduceIte, ↓Nat.reduceEqDiff, and_f, nt_e, nt_t, nl_t, nl_f, ne_t, ne_f, and_self, or_self, or_true, true_or, or_false, false_or, if_true, if_false, and_true, true_and, and_false, false_and, not_true, not_false_iff, closeSp_at, rc k hk]
        · simp (disch := omega) only [mup_at, up_at, fil_at, ↓reduceIte, ↓Nat.reduceEqDiff, and_f, nt_e, nt_t, nl_t, nl_f, ne_t, ne_f, and_self, or_self, or_true, true_or, or_false, false_or, if_true, if_false, and_true, true_and, and_false, false_and, not_true, not_false_iff, closeSp_at] at hk9
      have hd' : Rd ((mup (mup (mup M 0 0 4 (nI (α 9))) 0 1 5 (nI 0)) 0 5 0 (nI 0)) 0) (closeSp α) := by
        refine ⟨?_, ?_, ?_, ?_⟩
        · simp (disch := omega) only [mup_at, up_at, fil_at, ↓reduceIte, ↓Nat.reduceEqDiff, and_f, nt_e, nt_t, nl_t, nl_f, ne_t, ne_f, and_self, or_self, or_true, true_or, or_false, false_or, if_true, if_false, and_true, true_and, and_false, false_and, not_true, not_false_iff, closeSp_at]
        · simp (disch := omega) only [mup_at, up_at, fil_at, ↓reduceIte, ↓Nat.reduceEqDiff, and_f, nt_e, nt_t, nl_t, nl_f, ne_t, ne_f, and_self, or_self, or_true, true_or, or_false, false_or, if_true, if_false, and_true, true_and, and_false, false_and, not_true, not_false_iff, closeSp_at, hd.2.1]
        · simp (disch := omega) only [mup_at, up_at, fil_at, ↓reduceIte, ↓Nat.reduceEqDiff, and_f, nt_e, nt_t, nl_t, nl_f, ne_t, ne_f, and_self, or_self, or_true, true_or, or_false, false_or, if_true, if_false, and_true, true_and, and_false, false_and, not_true, not_false_iff, closeSp_at, hd.2.2.1]
        · simp (disch := omega) only [mup_at, up_at, fil_at, ↓reduceIte, ↓Nat.reduceEqDiff, and_f, nt_e, nt_t, nl_t, nl_f, ne_t, ne_f, and_self, or_self, or_true, true_or, or_false, false_or, if_true, if_false, and_true, true_and, and_false, false_and, not_true, not_false_iff, closeSp_at, hd.2.2.2]
      have hb' : Rb ((mup (mup (mup M 0 0 4 (nI (α 9))) 0 1 5 (nI 0)) 0 5 0 (nI 0)) 0) (closeSp α) :=
        Rb.of (fun i _ _ => by funext c; simp (disch := omega) only [mup_at, up_at, fil_at, ↓reduceIte, ↓Nat.reduceEqDiff, and_f, nt_e, nt_t, nl_t, nl_f, ne_t, ne_f, and_self, or_self, or_true, true_or, or_false, false_or, if_true, if_false, and_true, true_and, and_false, false_and, not_true, not_false_iff]) (fun j hj => by simp (disch := omega) only [closeSp_at, ↓reduceIte, ↓Nat.reduceEqDiff, and_f, nt_e, nt_t, nl_t, nl_f, ne_t, ne_f, and_self, or_self, or_true, true_or, or_false, false_or, if_true, if_false, and_true, true_and, and_false, false_and, not_true, not_false_iff]) hb
      have hj' : Rj ((mup (mup (mup M 0 0 4 (nI (α 9))) 0 1 5 (nI 0)) 0 5 0 (nI 0)) 0) (closeSp α) :=
        Rj.of (fun i _ _ => by funext c; simp (disch := omega) only [mup_at, up_at, fil_at, ↓reduceIte, ↓Nat.reduceEqDiff, and_f, nt_e, nt_t, nl_t, nl_f, ne_t, ne_f, and_self, or_self, or_true, true_or, or_false, false_or, if_true, if_false, and_true, true_and, and_false, false_and, not_true, not_false_iff]) (fun j hj => by simp (disch := omega) only [closeSp_at, ↓reduceIte, ↓Nat.reduceEqDiff, and_f, nt_e, nt_t, nl_t, nl_f, ne_t, ne_f, and_self, or_self, or_true, true_or, or_false, false_or, if_true, if_false, and_true, true_and, and_false, false_and, not_true, not_false_iff]) hj
      have hw := c_enter (k := 99) (w := 0) hj' (by rw [c14]; exact b14) (by decide)
      rw [c11] at hw
      have e6 : (mup (mup (mup M 0 0 4 (nI (α 9))) 0 1 5 (nI 0)) 0 5 0 (nI 0)) 0 6 0 = nI (α 11) := by
        rw [pm_ne (by decide), pm_ne (by decide), pm_ne (by decide)]
        exact hb.1
      simp (disch := omega) only [lit_0, lit_1, lit_2, lit_3, lit_4, lit_5, lit_6, lit_7, lit_8, lit_9, lit_10, lit_11, lit_12, lit_13, lit_14, lit_15, lit_16, lit_20, lit_23, lit_24, lit_31, lit_32, lit_39, lit_43, lit_45, lit_47, lit_48, lit_56, lit_57, lit_59, lit_60, lit_62, lit_63, lit_89, lit_92, lit_96, lit_97, lit_99, lit_100, lit_102, lit_103, lit_104, lit_110, lit_111, lit_115, lit_117, lit_194, lit_200, lit_644, lit_736, lit_999, lit_1000, lit_9999, lit_10000, lit_1000000000, ↓wp_mlet, ↓wp_mbp, ↓wp_ite, ↓wp_mix, ↓wp_mdiv, ↓wp_mnz, ↓wp_some, ↓wp_mbnd, ↓mlet_eq, ↓mbp_eq, ↓mbnd_eq, ↓mix_ite, ↓mdiv_ite, ↓mnz_ite, nI_add, nI_mul, nI_nat, nI_ltE, nI_leE, nI_eqE, nI_eqN, nI_Neq, nI_Nlt, nI_Nle, nI_ltN, nI_leN, ↓reduceIte, ↓Nat.reduceEqDiff, and_f, nt_e, nt_t, nl_t, nl_f, ne_t, ne_f, and_self, or_self, or_true, true_or, or_false, false_or, if_true, if_false, and_true, true_and, and_false, false_and, not_true, not_false_iff]
      rw [e6]
      refine wp_mono hw ?_
      rintro - M1 ⟨q1, q2, q3⟩
      refine ⟨RC_log (by rw [c14]; exact b14) hk' hd' hb' q1 q2, ?_, fun a h => ?_⟩
      · rw [q2 0 (by decide)]
        simp (disch := omega) only [mup_at, up_at, fil_at, ↓reduceIte, ↓Nat.reduceEqDiff, and_f, nt_e, nt_t, nl_t, nl_f, ne_t, ne_f, and_self, or_self, or_true, true_or, or_false, false_or, if_true, if_false, and_true, true_and, and_false, false_and, not_true, not_false_iff]
      · rw [q3 a h, pm_g h, pm_g h, pm_g h]
theorem m_closes {M : Mem} {α : Sp} {H : Nat} (hS : M 12 48 = enc α) (hi : Inv H α) : MT M 1 (sClose α) (f_X12_closes M) := by
  obtain ⟨⟨b0, b1, b2, b3, b4, b5, b6, b7, b8, b9, b10, b11, b14⟩, -, -, bs, bk, -, -, -, -, -⟩ := hi
  unfold sClose f_X12_closes
  by_cases hs : α 1 = 0
  · simp (disch := omega) only [lit_0, lit_1, lit_2, lit_3, lit_4, lit_5, lit_6, lit_7, lit_8, lit_9, lit_10, lit_11, lit_12, lit_13, lit_14, lit_15, lit_16, lit_20, lit_23, lit_24, lit_31, lit_32, lit_39, lit_43, lit_45, lit_47, lit_48, lit_56, lit_57, lit_59, lit_60, lit_62, lit_63, lit_89, lit_92, lit_96, lit_97, lit_99, lit_100, lit_102, lit_103, lit_104, lit_110, lit_111, lit_115, lit_117, lit_194, lit_200, lit_644, lit_736, lit_999, lit_1000, lit_9999, lit_10000, lit_1000000000, ↓wp_mlet, ↓wp_mbp, ↓wp_ite, ↓wp_mix, ↓wp_mdiv, ↓wp_mnz, ↓wp_some, ↓wp_mbnd, ↓mlet_eq, ↓mbp_eq, ↓mbnd_eq, ↓mix_ite, ↓mdiv_ite, ↓mnz_ite, nI_add, nI_mul, nI_nat, nI_ltE, nI_leE, nI_eqE, nI_eqN, nI_Neq, nI_Nlt, nI_Nle, nI_ltN, nI_leN, ↓reduceIte, ↓Nat.reduceEqDiff, and_f, nt_e, nt_t, nl_t, nl_f, ne_t, ne_f, and_self, or_self, or_true, true_or, or_false, false_or, if_true, if_false, and_true, true_and, and_false, false_and, not_true, not_false_iff, ms_n hS, hs]
    exact MT_refused (by decide)
  · by_cases ho : α 6 = 0
    · simp (disch := omega) only [lit_0, lit_1, lit_2, lit_3, lit_4, lit_5, lit_6, lit_7, lit_8, lit_9, lit_10, lit_11, lit_12, lit_13, lit_14, lit_15, lit_16, lit_20, lit_23, lit_24, lit_31, lit_32, lit_39, lit_43, lit_45, lit_47, lit_48, lit_56, lit_57, lit_59, lit_60, lit_62, lit_63, lit_89, lit_92, lit_96, lit_97, lit_99, lit_100, lit_102, lit_103, lit_104, lit_110, lit_111, lit_115, lit_117, lit_194, lit_200, lit_644, lit_736, lit_999, lit_1000, lit_9999, lit_10000, lit_1000000000, ↓wp_mlet, ↓wp_mbp, ↓wp_ite, ↓wp_mix, ↓wp_mdiv, ↓wp_mnz, ↓wp_some, ↓wp_mbnd, ↓mlet_eq, ↓mbp_eq, ↓mbnd_eq, ↓mix_ite, ↓mdiv_ite, ↓mnz_ite, nI_add, nI_mul, nI_nat, nI_ltE, nI_leE, nI_eqE, nI_eqN, nI_Neq, nI_Nlt, nI_Nle, nI_ltN, nI_leN, ↓reduceIte, ↓Nat.reduceEqDiff, and_f, nt_e, nt_t, nl_t, nl_f, ne_t, ne_f, and_self, or_self, or_true, true_or, or_false, false_or, if_true, if_false, and_true, true_and, and_false, false_and, not_true, not_false_iff, ms_n hS, hs, ho]
      exact MT_refused (by decide)
    · simp (disch := omega) only [lit_0, lit_1, lit_2, lit_3, lit_4, lit_5, lit_6, lit_7, lit_8, lit_9, lit_10, lit_11, lit_12, lit_13, lit_14, lit_15, lit_16, lit_20, lit_23, lit_24, lit_31, lit_32, lit_39, lit_43, lit_45, lit_47, lit_48, lit_56, lit_57, lit_59, lit_60, lit_62, lit_63, lit_89, lit_92, lit_96, lit_97, lit_99, lit_100, lit_102, lit_103, lit_104, lit_110, lit_111, lit_115, lit_117, lit_194, lit_200, lit_644, lit_736, lit_999, lit_1000, lit_9999, lit_10000, lit_1000000000, ↓wp_mlet, ↓wp_mbp, ↓wp_ite, ↓wp_mix, ↓wp_mdiv, ↓wp_mnz, ↓wp_some, ↓wp_mbnd, ↓mlet_eq, ↓mbp_eq, ↓mbnd_eq, ↓mix_ite, ↓mdiv_ite, ↓mnz_ite, nI_add, nI_mul, nI_nat, nI_ltE, nI_leE, nI_eqE, nI_eqN, nI_Neq, nI_Nlt, nI_Nle, nI_ltN, nI_leN, ↓reduceIte, ↓Nat.reduceEqDiff, and_f, nt_e, nt_t, nl_t, nl_f, ne_t, ne_f, and_self, or_self, or_true, true_or, or_false, false_or, if_true, if_false, and_true, true_and, and_false, false_and, not_true, not_false_iff, ms_n hS, hs, ho, m_clears]
      unfold MT
      have c14 : closeSp α 14 = α 14 := by rw [closeSp_at, if_neg (by decide), if_neg (by decide), if_neg (by decide)]
      have hF : mS M (mup (fil (mup M 12 48 6 (nI 0)) 12 48 23 31 (fun _ => nI 0)) 12 48 9 (nI 0)) (closeSp α) := by
        refine ⟨enc_ext (α := α) fun j => ?_, fun a b h => by rw [pm_ne h, fil_ne h, pm_ne h]⟩
        by_cases q : j = 6 ∨ j = 9 ∨ 23 ≤ j ∧ j < 31
        · refine Or.inr ⟨by omega, ?_⟩
          rcases q with rfl | rfl | q
          · simp (disch := omega) only [mup_at, up_at, fil_at, ↓reduceIte, ↓Nat.reduceEqDiff, and_f, nt_e, nt_t, nl_t, nl_f, ne_t, ne_f, and_self, or_self, or_true, true_or, or_false, false_or, if_true, if_false, and_true, true_and, and_false, false_and, not_true, not_false_iff, closeSp_at]
          · simp (disch := omega) only [mup_at, up_at, fil_at, ↓reduceIte, ↓Nat.reduceEqDiff, and_f, nt_e, nt_t, nl_t, nl_f, ne_t, ne_f, and_self, or_self, or_true, true_or, or_false, false_or, if_true, if_false, and_true, true_and, and_false, false_and, not_true, not_false_iff, closeSp_at]
          · simp (disch := omega) only [mup_at, up_at, fil_at, ↓reduceIte, ↓Nat.reduceEqDiff, and_f, nt_e, nt_t, nl_t, nl_f, ne_t, ne_f, and_self, or_self, or_true, true_or, or_false, false_or, if_true, if_false, and_true, true_and, and_false, false_and, not_true, not_false_iff, closeSp_at]
        · exact Or.inl ⟨by simp (disch := omega) only [closeSp_at, ↓reduceIte, ↓Nat.reduceEqDiff, and_f, nt_e, nt_t, nl_t, nl_f, ne_t, ne_f, and_self, or_self, or_true, true_or, or_false, false_or, if_true, if_false, and_true, true_and, and_false, false_and, not_true, not_false_iff], by simp (disch := omega) only [mup_at, up_at, fil_at, ↓reduceIte, ↓Nat.reduceEqDiff, and_f, nt_e, nt_t, nl_t, nl_f, ne_t, ne_f, and_self, or_self, or_true, true_or, or_false, false_or, if_true, if_false, and_true, true_and, and_false, false_and, not_true, not_false_iff, hS]⟩
      obtain ⟨⟨⟩, M2, e, h2⟩ := m_logs (k := 99) (w := 0) hF.1 (by rw [c14]; exact b14)
      have h3 := hF.trans h2
      unfold f_X12_done
      simp (disch := omega) only [lit_0, lit_1, lit_2, lit_3, lit_4, lit_5, lit_6, lit_7, lit_8, lit_9, lit_10, lit_11, lit_12, lit_13, lit_14, lit_15, lit_16, lit_20, lit_23, lit_24, lit_31, lit_32, lit_39, lit_43, lit_45, lit_47, lit_48, lit_56, lit_57, lit_59, lit_60, lit_62, lit_63, lit_89, lit_92, lit_96, lit_97, lit_99, lit_100, lit_102, lit_103, lit_104, lit_110, lit_111, lit_115, lit_117, lit_194, lit_200, lit_644, lit_736, lit_999, lit_1000, lit_9999, lit_10000, lit_1000000000, ↓wp_mlet, ↓wp_mbp, ↓wp_ite, ↓wp_mix, ↓wp_mdiv, ↓wp_mnz, ↓wp_some, ↓wp_mbnd, ↓mlet_eq, ↓mbp_eq, ↓mbnd_eq, ↓mix_ite, ↓mdiv_ite, ↓mnz_ite, nI_add, nI_mul, nI_nat, nI_ltE, nI_leE, nI_eqE, nI_eqN, nI_Neq, nI_Nlt, nI_Nle, nI_ltN, nI_leN, ↓reduceIte, ↓Nat.reduceEqDiff, and_f, nt_e, nt_t, nl_t, nl_f, ne_t, ne_f, and_self, or_self, or_true, true_or, or_false, false_or, if_true, if_false, and_true, true_and, and_false, false_and, not_true, not_false_iff, e]
      refine ⟨?_, ?_, ?_, ?_⟩
      · rw [pm_ne (by omega)]; exact h3.1
      · intro k hk
        rw [mup_at, if_neg (by omega), h3.2 12 47 (by omega)]
      · rw [mup_at, if_pos (by decide)]
      · intro a b hab
        rw [pm_ne (by omega), h3.2 a b (by omega)]
/-! states copied -/
theorem wp_mcpyI {β : Type} {M : Mem} {g0 i0 n0 sp g1 i1 n1 dp n : Nat} {k : Mem → Option (β × Mem)} {Q : β → Mem → Prop} (h1 : sp + n ≤ n0) (h2 : dp + n ≤ n1) (hb : n0 < 2147483648) (hb1 : n1 < 2147483648) :
    wp (mcpy .int M g0 i0 n0 (nI sp) g1 i1 n1 (nI dp) (nI n) k) Q = wp (k (mcp M g0 i0 g1 i1 sp dp n)) Q := wp_mcpy h1 h2 ⟨hb, hb1⟩ (fun _ _ => rfl)
theorem mcp_ne {M : Mem} {g0 i0 g1 i1 sp dp n a b : Nat} (h : ¬ (a = g1 ∧ b = i1)) : mcp M g0 i0 g1 i1 sp dp n a b = M a b := by
  unfold mcp
  rw [if_neg h]
theorem c_copyK {M : Mem} {α : Sp} {g g1 : Nat} (hne : g1 ≠ g) (hk : Rk (M g1) α) (b1 : α 1 ≤ 1) : wp (f_X6_copyFrom g g1 M) (fun _ M1 => Rk (M1 g) α ∧ (∀ i, ¬ (1 ≤ i ∧ i ≤ 4) → M1 g i = M g i) ∧ ∀ a, a ≠ g → M1 a = M a) := by
  obtain ⟨r0, r1, r3, r5, r2, rc, r4⟩ := hk
  have hb1 : (α 1 = 0 ∨ α 1 = 1) = True := eq_true (by omega)
  unfold f_X6_copyFrom
  simp only [lit_0, lit_1, lit_2, lit_3, lit_4, lit_5, lit_6, lit_7, lit_8, lit_9, lit_10, lit_11, lit_12, lit_13, lit_14, lit_15, lit_16, lit_20, lit_23, lit_24, lit_31, lit_32, lit_39, lit_43, lit_45, lit_47, lit_48, lit_56, lit_57, lit_59, lit_60, lit_62, lit_63, lit_89, lit_92, lit_96, lit_97, lit_99, lit_100, lit_102, lit_103, lit_104, lit_110, lit_111, lit_115, lit_117, lit_194, lit_200, lit_644, lit_736, lit_999, lit_1000, lit_9999, lit_10000, lit_1000000000]
  simp (disch := omega) only [lit_0, lit_1, lit_2, lit_3, lit_4, lit_5, lit_6, lit_7, lit_8, lit_9, lit_10, lit_11, lit_12, lit_13, lit_14, lit_15, lit_16, lit_20, lit_23, lit_24, lit_31, lit_32, lit_39, lit_43, lit_45, lit_47, lit_48, lit_56, lit_57, lit_59, lit_60, lit_62, lit_63, lit_89, lit_92, lit_96, lit_97, lit_99, lit_100, lit_102, lit_103, lit_104, lit_110, lit_111, lit_115, lit_117, lit_194, lit_200, lit_644, lit_736, lit_999, lit_1000, lit_9999, lit_10000, lit_1000000000, ↓wp_mlet, ↓wp_mbp, ↓wp_ite, ↓wp_mix, ↓wp_mdiv, ↓wp_mnz, ↓wp_some, ↓wp_mbnd, ↓mlet_eq, ↓mbp_eq, ↓mbnd_eq, ↓mix_ite, ↓mdiv_ite, ↓mnz_ite, nI_add, nI_mul, nI_nat, nI_ltE, nI_leE, nI_eqE, nI_eqN, nI_Neq, nI_Nlt, nI_Nle, nI_ltN, nI_leN, ↓reduceIte, ↓Nat.reduceEqDiff, and_f, nt_e, nt_t, nl_t, nl_f, ne_t, ne_f, and_self, or_self, or_true, true_or, or_false, false_or, if_true, if_false, and_true, true_and, and_false, false_and, not_true, not_false_iff, ↓wp_mcpyI, mcp_at, mup_at, up_at, fil_at, ↓reduceIte, ↓Nat.reduceEqDiff, and_f, nt_e, nt_t, nl_t, nl_f, ne_t, ne_f, and_self, or_self, or_true, true_or, or_false, false_or, if_true, if_false, and_true, true_and, and_false, false_and, not_true, not_false_iff, r0, r1, r3, r5, hb1]
  refine ⟨⟨?_, ?_, ?_, ?_, fun k hk => ?_, fun k hk => ?_, fun k hk hk9 => ?_⟩, fun i hi => ?_, fun a ha => ?_⟩
  · simp (disch := omega) only [mcp_at, mup_at, up_at, fil_at, ↓reduceIte, ↓Nat.reduceEqDiff, and_f, nt_e, nt_t, nl_t, nl_f, ne_t, ne_f, and_self, or_self, or_true, true_or, or_false, false_or, if_true, if_false, and_true, true_and, and_false, false_and, not_true, not_false_iff]
  · simp (disch := omega) only [mcp_at, mup_at, up_at, fil_at, ↓reduceIte, ↓Nat.reduceEqDiff, and_f, nt_e, nt_t, nl_t, nl_f, ne_t, ne_f, and_self, or_self, or_true, true_or, or_false, false_or, if_true, if_false, and_true, true_and, and_false, false_and, not_true, not_false_iff]
  · simp (disch := omega) only [mcp_at, mup_at, up_at, fil_at, ↓reduceIte, ↓Nat.reduceEqDiff, and_f, nt_e, nt_t, nl_t, nl_f, ne_t, ne_f, and_self, or_self, or_true, true_or, or_false, false_or, if_true, if_false, and_true, true_and, and_false, false_and, not_true, not_false_iff]
  · simp (disch := omega) only [mcp_at, mup_at, up_at, fil_at, ↓reduceIte, ↓Nat.reduceEqDiff, and_f, nt_e, nt_t, nl_t, nl_f, ne_t, ne_f, and_self, or_self, or_true, true_or, or_false, false_or, if_true, if_false, and_true, true_and, and_false, false_and, not_true, not_false_iff]
  · simp (disch := omega) only [mcp_at, mup_at, up_at, fil_at, ↓reduceIte, ↓Nat.reduceEqDiff, and_f, nt_e, nt_t, nl_t, nl_f, ne_t, ne_f, and_self, or_self, or_true, true_or, or_false, false_or, if_true, if_false, and_true, true_and, and_false, false_and, not_true, not_false_iff, Nat.zero_add, Nat.sub_zero, r2 k hk]
  · simp (disch := omega) only [mcp_at, mup_at, up_at, fil_at, ↓reduceIte, ↓Nat.reduceEqDiff, and_f, nt_e, nt_t, nl_t, nl_f, ne_t, ne_f, and_self, or_self, or_true, true_or, or_false, false_or, if_true, if_false, and_true, true_and, and_false, false_and, not_true, not_false_iff, Nat.zero_add, Nat.sub_zero, rc k hk]
  · simp (disch := omega) only [mcp_at, mup_at, up_at, fil_at, ↓reduceIte, ↓Nat.reduceEqDiff, and_f, nt_e, nt_t, nl_t, nl_f, ne_t, ne_f, and_self, or_self, or_true, true_or, or_false, false_or, if_true, if_false, and_true, true_and, and_false, false_and, not_true, not_false_iff, Nat.zero_add, Nat.sub_zero, r4 k hk hk9]
  · funext c
    simp (disch := omega) only [mcp_at, mup_at, up_at, fil_at, ↓reduceIte, ↓Nat.reduceEqDiff, and_f, nt_e, nt_t, nl_t, nl_f, ne_t, ne_f, and_self, or_self, or_true, true_or, or_false, false_or, if_true, if_false, and_true, true_and, and_false, false_and, not_true, not_false_iff]
  · funext b c
    simp (disch := omega) only [mcp_at, mup_at, up_at, fil_at, ↓reduceIte, ↓Nat.reduceEqDiff, and_f, nt_e, nt_t, nl_t, nl_f, ne_t, ne_f, and_self, or_self, or_true, true_or, or_false, false_or, if_true, if_false, and_true, true_and, and_false, false_and, not_true, not_false_iff]
theorem c_copyD {M : Mem} {α : Sp} {g g1 : Nat} (hne : g1 ≠ g) (hd : Rd (M g1) α) (b6 : α 6 ≤ 1) : wp (f_X3_copyFrom g g1 M) (fun _ M1 => Rd (M1 g) α ∧ (∀ i, i ≠ 5 → M1 g i = M g i) ∧ ∀ a, a ≠ g → M1 a = M a) := by
  obtain ⟨r0, r1, r2, r3⟩ := hd
  have hb1 : (α 6 = 0 ∨ α 6 = 1) = True := eq_true (by omega)
  unfold f_X3_copyFrom
  simp (disch := omega) only [lit_0, lit_1, lit_2, lit_3, lit_4, lit_5, lit_6, lit_7, lit_8, lit_9, lit_10, lit_11, lit_12, lit_13, lit_14, lit_15, lit_16, lit_20, lit_23, lit_24, lit_31, lit_32, lit_39, lit_43, lit_45, lit_47, lit_48, lit_56, lit_57, lit_59, lit_60, lit_62, lit_63, lit_89, lit_92, lit_96, lit_97, lit_99, lit_100, lit_102, lit_103, lit_104, lit_110, lit_111, lit_115, lit_117, lit_194, lit_200, lit_644, lit_736, lit_999, lit_1000, lit_9999, lit_10000, lit_1000000000, ↓wp_mlet, ↓wp_mbp, ↓wp_ite, ↓wp_mix, ↓wp_mdiv, ↓wp_mnz, ↓wp_some, ↓wp_mbnd, ↓mlet_eq, ↓mbp_eq, ↓mbnd_eq, ↓mix_ite, ↓mdiv_ite, ↓mnz_ite, nI_add, nI_mul, nI_nat, nI_ltE, nI_leE, nI_eqE, nI_eqN, nI_Neq, nI_Nlt, nI_Nle, nI_ltN, nI_leN, ↓reduceIte, ↓Nat.reduceEqDiff, and_f, nt_e, nt_t, nl_t, nl_f, ne_t, ne_f, and_self, or_self, or_true, true_or, or_false, false_or, if_true, if_false, and_true, true_and, and_false, false_and, not_true, not_false_iff, mup_at, up_at, fil_at, ↓reduceIte, ↓Nat.reduceEqDiff, and_f, nt_e, nt_t, nl_t, nl_f, ne_t, ne_f, and_self, or_self, or_true, true_or, or_false, false_or, if_true, if_false, and_true, true_and, and_false, false_and, not_true, not_false_iff, r0, r1, r2, r3, hb1]
  refine ⟨⟨?_, ?_, ?_, ?_⟩, fun i hi => ?_, fun a ha => ?_⟩
  · simp (disch := omega) only [mup_at, up_at, fil_at, ↓reduceIte, ↓Nat.reduceEqDiff, and_f, nt_e, nt_t, nl_t, nl_f, ne_t, ne_f, and_self, or_self, or_true, true_or, or_false, false_or, if_true, if_false, and_true, true_and, and_false, false_and, not_true, not_false_iff]
  · simp (disch := omega) only [mup_at, up_at, fil_at, ↓reduceIte, ↓Nat.reduceEqDiff, and_f, nt_e, nt_t, nl_t, nl_f, ne_t, ne_f, and_self, or_self, or_true, true_or, or_false, false_or, if_true, if_false, and_true, true_and, and_false, false_and, not_true, not_false_iff]
  · simp (disch := omega) only [mup_at, up_at, fil_at, ↓reduceIte, ↓Nat.reduceEqDiff, and_f, nt_e, nt_t, nl_t, nl_f, ne_t, ne_f, and_self, or_self, or_true, true_or, or_false, false_or, if_true, if_false, and_true, true_and, and_false, false_and, not_true, not_false_iff]
  · simp (disch := omega) only [mup_at, up_at, fil_at, ↓reduceIte, ↓Nat.reduceEqDiff, and_f, nt_e, nt_t, nl_t, nl_f, ne_t, ne_f, and_self, or_self, or_true, true_or, or_false, false_or, if_true, if_false, and_true, true_and, and_false, false_and, not_true, not_false_iff]
  · rw [pm_ne (by omega), pm_ne (by omega), pm_ne (by omega), pm_ne (by omega)]
  · rw [pm_g ha, pm_g ha, pm_g ha, pm_g ha]
/-- the guards' directions, copied one by one -/
theorem c_copyF {M : Mem} {N g g1 : Nat} (hN : 1000 = N) (hne : g1 ≠ g) (h8 : ∀ k, k < 3 → ∃ c, c < 2 ∧ M g1 10 k = nI c) (kk : Mem → Option (Unit × Mem)) : f_X1_copyFrom_L84 g g1 N (nI 0) M kk = kk (fil M g 10 0 3 (M g1 10)) := by
  have key := mloop (F := fun n x s kk => f_X1_copyFrom_L84 g g1 n x s kk) (c := 3) (fun x => fil M g 10 0 x (M g1 10)) (fun m x kk hx => by
    rw [f_X1_copyFrom_L84.eq_2]
    obtain ⟨c, c1, c2⟩ := h8 x hx
    have e : (fil M g 10 0 x (M g1 10)) g1 10 x = nI c := by rw [fil_ne (fun q => hne q.1)]; exact c2
    simp (disch := omega) only [lit_0, lit_1, lit_2, lit_3, lit_4, lit_5, lit_6, lit_7, lit_8, lit_9, lit_10, lit_11, lit_12, lit_13, lit_14, lit_15, lit_16, lit_20, lit_23, lit_24, lit_31, lit_32, lit_39, lit_43, lit_45, lit_47, lit_48, lit_56, lit_57, lit_59, lit_60, lit_62, lit_63, lit_89, lit_92, lit_96, lit_97, lit_99, lit_100, lit_102, lit_103, lit_104, lit_110, lit_111, lit_115, lit_117, lit_194, lit_200, lit_644, lit_736, lit_999, lit_1000, lit_9999, lit_10000, lit_1000000000, ↓wp_mlet, ↓wp_mbp, ↓wp_ite, ↓wp_mix, ↓wp_mdiv, ↓wp_mnz, ↓wp_some, ↓wp_mbnd, ↓mlet_eq, ↓mbp_eq, ↓mbnd_eq, ↓mix_ite, ↓mdiv_ite, ↓mnz_ite, nI_add, nI_mul, nI_nat, nI_ltE, nI_leE, nI_eqE, nI_eqN, nI_Neq, nI_Nlt, nI_Nle, nI_ltN, nI_leN, ↓reduceIte, ↓Nat.reduceEqDiff, and_f, nt_e, nt_t, nl_t, nl_f, ne_t, ne_f, and_self, or_self, or_true, true_or, or_false, false_or, if_true, if_false, and_true, true_and, and_false, false_and, not_true, not_false_iff, e, vnar_bool]
    rw [fil_s (Nat.zero_le _) c2.symm]) (fun m kk => by
    rw [f_X1_copyFrom_L84.eq_2]
    simp (disch := omega) only [lit_0, lit_1, lit_2, lit_3, lit_4, lit_5, lit_6, lit_7, lit_8, lit_9, lit_10, lit_11, lit_12, lit_13, lit_14, lit_15, lit_16, lit_20, lit_23, lit_24, lit_31, lit_32, lit_39, lit_43, lit_45, lit_47, lit_48, lit_56, lit_57, lit_59, lit_60, lit_62, lit_63, lit_89, lit_92, lit_96, lit_97, lit_99, lit_100, lit_102, lit_103, lit_104, lit_110, lit_111, lit_115, lit_117, lit_194, lit_200, lit_644, lit_736, lit_999, lit_1000, lit_9999, lit_10000, lit_1000000000, ↓wp_mlet, ↓wp_mbp, ↓wp_ite, ↓wp_mix, ↓wp_mdiv, ↓wp_mnz, ↓wp_some, ↓wp_mbnd, ↓mlet_eq, ↓mbp_eq, ↓mbnd_eq, ↓mix_ite, ↓mdiv_ite, ↓mnz_ite, nI_add, nI_mul, nI_nat, nI_ltE, nI_leE, nI_eqE, nI_eqN, nI_Neq, nI_Nlt, nI_Nle, nI_ltN, nI_leN, ↓reduceIte, ↓Nat.reduceEqDiff, and_f, nt_e, nt_t, nl_t, nl_f, ne_t, ne_f, and_self, or_self, or_true, true_or, or_false, false_or, if_true, if_false, and_true, true_and, and_false, false_and, not_true, not_false_iff])
  have := key 3 N 0 kk (by omega) (by omega)
  rw [fil_0] at this
  exact this
theorem c_copyB {M : Mem} {α : Sp} {g g1 : Nat} (hne : g1 ≠ g) (hb : Rb (M g1) α) : wp (f_X1_copyFrom g g1 M) (fun _ M1 => Rb (M1 g) α ∧ (∀ i, ¬ (6 ≤ i ∧ i ≤ 11) → M1 g i = M g i) ∧ ∀ a, a ≠ g → M1 a = M a) := by
  obtain ⟨r0, r3, r4, r5, r6, r7, r8⟩ := hb
  unfold f_X1_copyFrom
  generalize hN : (1000 : Nat) = N
  simp only [lit_0, lit_1, lit_2, lit_3, lit_4, lit_5, lit_6, lit_7, lit_8, lit_9, lit_10, lit_11, lit_12, lit_13, lit_14, lit_15, lit_16, lit_20, lit_23, lit_24, lit_31, lit_32, lit_39, lit_43, lit_45, lit_47, lit_48, lit_56, lit_57, lit_59, lit_60, lit_62, lit_63, lit_89, lit_92, lit_96, lit_97, lit_99, lit_100, lit_102, lit_103, lit_104, lit_110, lit_111, lit_115, lit_117, lit_194, lit_200, lit_644, lit_736, lit_999, lit_1000, lit_9999, lit_10000, lit_1000000000]
  simp (disch := omega) only [lit_0, lit_1, lit_2, lit_3, lit_4, lit_5, lit_6, lit_7, lit_8, lit_9, lit_10, lit_11, lit_12, lit_13, lit_14, lit_15, lit_16, lit_20, lit_23, lit_24, lit_31, lit_32, lit_39, lit_43, lit_45, lit_47, lit_48, lit_56, lit_57, lit_59, lit_60, lit_62, lit_63, lit_89, lit_92, lit_96, lit_97, lit_99, lit_100, lit_102, lit_103, lit_104, lit_110, lit_111, lit_115, lit_117, lit_194, lit_200, lit_644, lit_736, lit_999, lit_1000, lit_9999, lit_10000, lit_1000000000, ↓wp_mlet, ↓wp_mbp, ↓wp_ite, ↓wp_mix, ↓wp_mdiv, ↓wp_mnz, ↓wp_some, ↓wp_mbnd, ↓mlet_eq, ↓mbp_eq, ↓mbnd_eq, ↓mix_ite, ↓mdiv_ite, ↓mnz_ite, nI_add, nI_mul, nI_nat, nI_ltE, nI_leE, nI_eqE, nI_eqN, nI_Neq, nI_Nlt, nI_Nle, nI_ltN, nI_leN, ↓reduceIte, ↓Nat.reduceEqDiff, and_f, nt_e, nt_t, nl_t, nl_f, ne_t, ne_f, and_self, or_self, or_true, true_or, or_false, false_or, if_true, if_false, and_true, true_and, and_false, false_and, not_true, not_false_iff, ↓wp_mcpyI, mcp_at, mup_at, up_at, fil_at, ↓reduceIte, ↓Nat.reduceEqDiff, and_f, nt_e, nt_t, nl_t, nl_f, ne_t, ne_f, and_self, or_self, or_true, true_or, or_false, false_or, if_true, if_false, and_true, true_and, and_false, false_and, not_true, not_false_iff, r0, r3, r4]
  rw [c_copyF hN hne (fun j hj => by
    obtain ⟨c, c1, c2⟩ := r8 j hj
    refine ⟨c, c1, ?_⟩
    simp (disch := omega) only [mcp_at, mup_at, up_at, fil_at, ↓reduceIte, ↓Nat.reduceEqDiff, and_f, nt_e, nt_t, nl_t, nl_f, ne_t, ne_f, and_self, or_self, or_true, true_or, or_false, false_or, if_true, if_false, and_true, true_and, and_false, false_and, not_true, not_false_iff, c2])]
  simp (disch := omega) only [lit_0, lit_1, lit_2, lit_3, lit_4, lit_5, lit_6, lit_7, lit_8, lit_9, lit_10, lit_11, lit_12, lit_13, lit_14, lit_15, lit_16, lit_20, lit_23, lit_24, lit_31, lit_32, lit_39, lit_43, lit_45, lit_47, lit_48, lit_56, lit_57, lit_59, lit_60, lit_62, lit_63, lit_89, lit_92, lit_96, lit_97, lit_99, lit_100, lit_102, lit_103, lit_104, lit_110, lit_111, lit_115, lit_117, lit_194, lit_200, lit_644, lit_736, lit_999, lit_1000, lit_9999, lit_10000, lit_1000000000, ↓wp_mlet, ↓wp_mbp, ↓wp_ite, ↓wp_mix, ↓wp_mdiv, ↓wp_mnz, ↓wp_some, ↓wp_mbnd, ↓mlet_eq, ↓mbp_eq, ↓mbnd_eq, ↓mix_ite, ↓mdiv_ite, ↓mnz_ite, nI_add, nI_mul, nI_nat, nI_ltE, nI_leE, nI_eqE, nI_eqN, nI_Neq, nI_Nlt, nI_Nle, nI_ltN, nI_leN, ↓reduceIte, ↓Nat.reduceEqDiff, and_f, nt_e, nt_t, nl_t, nl_f, ne_t, ne_f, and_self, or_self, or_true, true_or, or_false, false_or, if_true, if_false, and_true, true_and, and_false, false_and, not_true, not_false_iff, ↓wp_mcpyI]
  refine ⟨⟨?_, ?_, ?_, fun k hk => ?_, fun k hk => ?_, fun k hk hk9 => ?_, fun k hk => ?_⟩, fun i hi => ?_, fun a ha => ?_⟩
  · simp (disch := omega) only [mcp_at, mup_at, up_at, fil_at, ↓reduceIte, ↓Nat.reduceEqDiff, and_f, nt_e, nt_t, nl_t, nl_f, ne_t, ne_f, and_self, or_self, or_true, true_or, or_false, false_or, if_true, if_false, and_true, true_and, and_false, false_and, not_true, not_false_iff]
  · simp (disch := omega) only [mcp_at, mup_at, up_at, fil_at, ↓reduceIte, ↓Nat.reduceEqDiff, and_f, nt_e, nt_t, nl_t, nl_f, ne_t, ne_f, and_self, or_self, or_true, true_or, or_false, false_or, if_true, if_false, and_true, true_and, and_false, false_and, not_true, not_false_iff]
  · simp (disch := omega) only [mcp_at, mup_at, up_at, fil_at, ↓reduceIte, ↓Nat.reduceEqDiff, and_f, nt_e, nt_t, nl_t, nl_f, ne_t, ne_f, and_self, or_self, or_true, true_or, or_false, false_or, if_true, if_false, and_true, true_and, and_false, false_and, not_true, not_false_iff]
  · simp (disch := omega) only [mcp_at, mup_at, up_at, fil_at, ↓reduceIte, ↓Nat.reduceEqDiff, and_f, nt_e, nt_t, nl_t, nl_f, ne_t, ne_f, and_self, or_self, or_true, true_or, or_false, false_or, if_true, if_false, and_true, true_and, and_false, false_and, not_true, not_false_iff, Nat.zero_add, Nat.sub_zero, r5 k hk]
  · simp (disch := omega) only [mcp_at, mup_at, up_at, fil_at, ↓reduceIte, ↓Nat.reduceEqDiff, and_f, nt_e, nt_t, nl_t, nl_f, ne_t, ne_f, and_self, or_self, or_true, true_or, or_false, false_or, if_true, if_false, and_true, true_and, and_false, false_and, not_true, not_false_iff, Nat.zero_add, Nat.sub_zero, r6 k hk]
  · have q := r7 k hk hk9
    refine ⟨?_, ?_, ?_⟩
    · simp (disch := omega) only [mcp_at, mup_at, up_at, fil_at, ↓reduceIte, ↓Nat.reduceEqDiff, and_f, nt_e, nt_t, nl_t, nl_f, ne_t, ne_f, and_self, or_self, or_true, true_or, or_false, false_or, if_true, if_false, and_true, true_and, and_false, false_and, not_true, not_false_iff, Nat.zero_add, Nat.sub_zero, q.1]
    · simp (disch := omega) only [mcp_at, mup_at, up_at, fil_at, ↓reduceIte, ↓Nat.reduceEqDiff, and_f, nt_e, nt_t, nl_t, nl_f, ne_t, ne_f, and_self, or_self, or_true, true_or, or_false, false_or, if_true, if_false, and_true, true_and, and_false, false_and, not_true, not_false_iff, Nat.zero_add, Nat.sub_zero, q.2.1]
    · simp (disch := omega) only [mcp_at, mup_at, up_at, fil_at, ↓reduceIte, ↓Nat.reduceEqDiff, and_f, nt_e, nt_t, nl_t, nl_f, ne_t, ne_f, and_self, or_self, or_true, true_or, or_false, false_or, if_true, if_false, and_true, true_and, and_false, false_and, not_true, not_false_iff, Nat.zero_add, Nat.sub_zero, q.2.2]
  · obtain ⟨c, c1, c2⟩ := r8 k hk
    exact ⟨c, c1, by simp (disch := omega) only [mcp_at, mup_at, up_at, fil_at, ↓reduceIte, ↓Nat.reduceEqDiff, and_f, nt_e, nt_t, nl_t, nl_f, ne_t, ne_f, and_self, or_self, or_true, true_or, or_false, false_or, if_true, if_false, and_true, true_and, and_false, false_and, not_true, not_false_iff, Nat.zero_add, Nat.sub_zero, c2]⟩
  · funext c
    simp (disch := omega) only [mcp_at, mup_at, up_at, fil_at, ↓reduceIte, ↓Nat.reduceEqDiff, and_f, nt_e, nt_t, nl_t, nl_f, ne_t, ne_f, and_self, or_self, or_true, true_or, or_false, false_or, if_true, if_false, and_true, true_and, and_false, false_and, not_true, not_false_iff]
  · funext b c
    simp (disch := omega) only [mcp_at, mup_at, up_at, fil_at, ↓reduceIte, ↓Nat.reduceEqDiff, and_f, nt_e, nt_t, nl_t, nl_f, ne_t, ne_f, and_self, or_self, or_true, true_or, or_false, false_or, if_true, if_false, and_true, true_and, and_false, false_and, not_true, not_false_iff]
theorem c_copyJ {M : Mem} {α : Sp} {g g1 : Nat} (hne : g1 ≠ g) (hj : Rj (M g1) α) : wp (f_X5_copyFrom g g1 M) (fun _ M1 => Rj (M1 g) α ∧ (∀ i, ¬ (12 ≤ i ∧ i ≤ 15) → M1 g i = M g i) ∧ ∀ a, a ≠ g → M1 a = M a) := by
  obtain ⟨r0, r1, r2⟩ := hj
  unfold f_X5_copyFrom
  simp only [lit_0, lit_1, lit_2, lit_3, lit_4, lit_5, lit_6, lit_7, lit_8, lit_9, lit_10, lit_11, lit_12, lit_13, lit_14, lit_15, lit_16, lit_20, lit_23, lit_24, lit_31, lit_32, lit_39, lit_43, lit_45, lit_47, lit_48, lit_56, lit_57, lit_59, lit_60, lit_62, lit_63, lit_89, lit_92, lit_96, lit_97, lit_99, lit_100, lit_102, lit_103, lit_104, lit_110, lit_111, lit_115, lit_117, lit_194, lit_200, lit_644, lit_736, lit_999, lit_1000, lit_9999, lit_10000, lit_1000000000]
  simp (disch := omega) only [lit_0, lit_1, lit_2, lit_3, lit_4, lit_5, lit_6, lit_7, lit_8, lit_9, lit_10, lit_11, lit_12, lit_13, lit_14, lit_15, lit_16, lit_20, lit_23, lit_24, lit_31, lit_32, lit_39, lit_43, lit_45, lit_47, lit_48, lit_56, lit_57, lit_59, lit_60, lit_62, lit_63, lit_89, lit_92, lit_96, lit_97, lit_99, lit_100, lit_102, lit_103, lit_104, lit_110, lit_111, lit_115, lit_117, lit_194, lit_200, lit_644, lit_736, lit_999, lit_1000, lit_9999, lit_10000, lit_1000000000, ↓wp_mlet, ↓wp_mbp, ↓wp_ite, ↓wp_mix, ↓wp_mdiv, ↓wp_mnz, ↓wp_some, ↓wp_mbnd, ↓mlet_eq, ↓mbp_eq, ↓mbnd_eq, ↓mix_ite, ↓mdiv_ite, ↓mnz_ite, nI_add, nI_mul, nI_nat, nI_ltE, nI_leE, nI_eqE, nI_eqN, nI_Neq, nI_Nlt, nI_Nle, nI_ltN, nI_leN, ↓reduceIte, ↓Nat.reduceEqDiff, and_f, nt_e, nt_t, nl_t, nl_f, ne_t, ne_f, and_self, or_self, or_true, true_or, or_false, false_or, if_true, if_false, and_true, true_and, and_false, false_and, not_true, not_false_iff, ↓wp_mcpyI, mcp_at, mup_at, up_at, fil_at, ↓reduceIte, ↓Nat.reduceEqDiff, and_f, nt_e, nt_t, nl_t, nl_f, ne_t, ne_f, and_self, or_self, or_true, true_or, or_false, false_or, if_true, if_false, and_true, true_and, and_false, false_and, not_true, not_false_iff, r0]
  rw [wp_mcpy (by decide) (by decide) (by decide) (fun j hj => by
    obtain ⟨c, c1, c2⟩ := r2 (0 + j) (by omega)
    simp (disch := omega) only [mcp_at, mup_at, up_at, fil_at, ↓reduceIte, ↓Nat.reduceEqDiff, and_f, nt_e, nt_t, nl_t, nl_f, ne_t, ne_f, and_self, or_self, or_true, true_or, or_false, false_or, if_true, if_false, and_true, true_and, and_false, false_and, not_true, not_false_iff, c2]
    exact fits_char c1)]
  simp (disch := omega) only [lit_0, lit_1, lit_2, lit_3, lit_4, lit_5, lit_6, lit_7, lit_8, lit_9, lit_10, lit_11, lit_12, lit_13, lit_14, lit_15, lit_16, lit_20, lit_23, lit_24, lit_31, lit_32, lit_39, lit_43, lit_45, lit_47, lit_48, lit_56, lit_57, lit_59, lit_60, lit_62, lit_63, lit_89, lit_92, lit_96, lit_97, lit_99, lit_100, lit_102, lit_103, lit_104, lit_110, lit_111, lit_115, lit_117, lit_194, lit_200, lit_644, lit_736, lit_999, lit_1000, lit_9999, lit_10000, lit_1000000000, ↓wp_mlet, ↓wp_mbp, ↓wp_ite, ↓wp_mix, ↓wp_mdiv, ↓wp_mnz, ↓wp_some, ↓wp_mbnd, ↓mlet_eq, ↓mbp_eq, ↓mbnd_eq, ↓mix_ite, ↓mdiv_ite, ↓mnz_ite, nI_add, nI_mul, nI_nat, nI_ltE, nI_leE, nI_eqE, nI_eqN, nI_Neq, nI_Nlt, nI_Nle, nI_ltN, nI_leN, ↓reduceIte, ↓Nat.reduceEqDiff, and_f, nt_e, nt_t, nl_t, nl_f, ne_t, ne_f, and_self, or_self, or_true, true_or, or_false, false_or, if_true, if_false, and_true, true_and, and_false, false_and, not_true, not_false_iff, ↓wp_mcpyI]
  refine ⟨⟨?_, fun k hk hk9 => ?_, fun k hk => ?_⟩, fun i hi => ?_, fun a ha => ?_⟩
  · simp (disch := omega) only [mcp_at, mup_at, up_at, fil_at, ↓reduceIte, ↓Nat.reduceEqDiff, and_f, nt_e, nt_t, nl_t, nl_f, ne_t, ne_f, and_self, or_self, or_true, true_or, or_false, false_or, if_true, if_false, and_true, true_and, and_false, false_and, not_true, not_false_iff]
  · have q := r1 k hk hk9
    refine ⟨?_, ?_, ?_⟩
    · simp (disch := omega) only [mcp_at, mup_at, up_at, fil_at, ↓reduceIte, ↓Nat.reduceEqDiff, and_f, nt_e, nt_t, nl_t, nl_f, ne_t, ne_f, and_self, or_self, or_true, true_or, or_false, false_or, if_true, if_false, and_true, true_and, and_false, false_and, not_true, not_false_iff, Nat.zero_add, Nat.sub_zero, q.1]
    · simp (disch := omega) only [mcp_at, mup_at, up_at, fil_at, ↓reduceIte, ↓Nat.reduceEqDiff, and_f, nt_e, nt_t, nl_t, nl_f, ne_t, ne_f, and_self, or_self, or_true, true_or, or_false, false_or, if_true, if_false, and_true, true_and, and_false, false_and, not_true, not_false_iff, Nat.zero_add, Nat.sub_zero, q.2.1]
    · simp (disch := omega) only [mcp_at, mup_at, up_at, fil_at, ↓reduceIte, ↓Nat.reduceEqDiff, and_f, nt_e, nt_t, nl_t, nl_f, ne_t, ne_f, and_self, or_self, or_true, true_or, or_false, false_or, if_true, if_false, and_true, true_and, and_false, false_and, not_true, not_false_iff, Nat.zero_add, Nat.sub_zero, q.2.2]
  · obtain ⟨c, c1, c2⟩ := r2 k hk
    exact ⟨c, c1, by simp (disch := omega) only [mcp_at, mup_at, up_at, fil_at, ↓reduceIte, ↓Nat.reduceEqDiff, and_f, nt_e, nt_t, nl_t, nl_f, ne_t, ne_f, and_self, or_self, or_true, true_or, or_false, false_or, if_true, if_false, and_true, true_and, and_false, false_and, not_true, not_false_iff, Nat.zero_add, Nat.sub_zero, c2]⟩
  · funext c
    simp (disch := omega) only [mcp_at, mup_at, up_at, fil_at, ↓reduceIte, ↓Nat.reduceEqDiff, and_f, nt_e, nt_t, nl_t, nl_f, ne_t, ne_f, and_self, or_self, or_true, true_or, or_false, false_or, if_true, if_false, and_true, true_and, and_false, false_and, not_true, not_false_iff]
  · funext b c
    simp (disch := omega) only [mcp_at, mup_at, up_at, fil_at, ↓reduceIte, ↓Nat.reduceEqDiff, and_f, nt_e, nt_t, nl_t, nl_f, ne_t, ne_f, and_self, or_self, or_true, true_or, or_false, false_or, if_true, if_false, and_true, true_and, and_false, false_and, not_true, not_false_iff]
theorem c_copy {M : Mem} {α : Sp} {g g1 : Nat} (hne : g1 ≠ g) (hR : RC (M g1) α) (b1 : α 1 ≤ 1) (b6 : α 6 ≤ 1) : wp (f_X9_copyFrom g g1 M) (fun _ M1 => RC (M1 g) α ∧ M1 g 0 = M g 0 ∧ ∀ a, a ≠ g → M1 a = M a) := by
  obtain ⟨hk, hd, hb, hj⟩ := hR
  unfold f_X9_copyFrom
  rw [wp_mbnd]
  refine wp_mono (c_copyK hne hk b1) ?_
  rintro - M1 ⟨k1, k2, k3⟩
  rw [wp_mbnd]
  refine wp_mono (c_copyD hne (by rw [k3 g1 hne]; exact hd) b6) ?_
  rintro - M2 ⟨d1, d2, d3⟩
  rw [wp_mbnd]
  refine wp_mono (c_copyB hne (by rw [d3 g1 hne, k3 g1 hne]; exact hb)) ?_
  rintro - M3 ⟨e1, e2, e3⟩
  rw [wp_mbnd]
  refine wp_mono (c_copyJ hne (by rw [e3 g1 hne, d3 g1 hne, k3 g1 hne]; exact hj)) ?_
  rintro - M4 ⟨f1, f2, f3⟩
  rw [wp_some]
  refine ⟨⟨?_, ?_, ?_, f1⟩, ?_, fun a h => ?_⟩
  · exact Rk.of (fun i q1 q2 => by rw [f2 i (by omega), e2 i (by omega), d2 i (by omega)]) (fun _ _ => rfl) k1
  · exact Rd.of (by rw [f2 5 (by omega), e2 5 (by omega)]) (fun _ _ => rfl) d1
  · exact Rb.of (fun i q1 q2 => by rw [f2 i (by omega)]) (fun _ _ => rfl) e1
  · rw [f2 0 (by omega), e2 0 (by omega), d2 0 (by omega), k2 0 (by omega)]
  · rw [f3 a h, e3 a h, d3 a h, k3 a h]
/-! WHAT CAN BE UNDONE -/
theorem m_remembers {M : Mem} : f_X12_remembers M = some ((), fil (mup M 12 47 0 (nI 0)) 12 49 0 92 (M 12 48)) := by
  unfold f_X12_remembers
  generalize hN : (1000 : Nat) = N
  have key := mloop (F := fun n x s kk => f_X12_remembers_L7 n x s kk) (c := 92) (fun x => fil (mup M 12 47 0 (nI 0)) 12 49 0 x (M 12 48)) (fun m x kk hx => by
    rw [f_X12_remembers_L7.eq_2]
    have e : (fil (mup M 12 47 0 (nI 0)) 12 49 0 x (M 12 48)) 12 48 x = M 12 48 x := by rw [fil_ne (by decide), pm_ne (by decide)]
    simp (disch := omega) only [lit_0, lit_1, lit_2, lit_3, lit_4, lit_5, lit_6, lit_7, lit_8, lit_9, lit_10, lit_11, lit_12, lit_13, lit_14, lit_15, lit_16, lit_20, lit_23, lit_24, lit_31, lit_32, lit_39, lit_43, lit_45, lit_47, lit_48, lit_56, lit_57, lit_59, lit_60, lit_62, lit_63, lit_89, lit_92, lit_96, lit_97, lit_99, lit_100, lit_102, lit_103, lit_104, lit_110, lit_111, lit_115, lit_117, lit_194, lit_200, lit_644, lit_736, lit_999, lit_1000, lit_9999, lit_10000, lit_1000000000, ↓wp_mlet, ↓wp_mbp, ↓wp_ite, ↓wp_mix, ↓wp_mdiv, ↓wp_mnz, ↓wp_some, ↓wp_mbnd, ↓mlet_eq, ↓mbp_eq, ↓mbnd_eq, ↓mix_ite, ↓mdiv_ite, ↓mnz_ite, nI_add, nI_mul, nI_nat, nI_ltE, nI_leE, nI_eqE, nI_eqN, nI_Neq, nI_Nlt, nI_Nle, nI_ltN, nI_leN, ↓reduceIte, ↓Nat.reduceEqDiff, and_f, nt_e, nt_t, nl_t, nl_f, ne_t, ne_f, and_self, or_self, or_true, true_or, or_false, false_or, if_true, if_false, and_true, true_and, and_false, false_and, not_true, not_false_iff, e]
    rw [fil_s (Nat.zero_le _) rfl]) (fun m kk => by
    rw [f_X12_remembers_L7.eq_2]
    simp (disch := omega) only [lit_0, lit_1, lit_2, lit_3, lit_4, lit_5, lit_6, lit_7, lit_8, lit_9, lit_10, lit_11, lit_12, lit_13, lit_14, lit_15, lit_16, lit_20, lit_23, lit_24, lit_31, lit_32, lit_39, lit_43, lit_45, lit_47, lit_48, lit_56, lit_57, lit_59, lit_60, lit_62, lit_63, lit_89, lit_92, lit_96, lit_97, lit_99, lit_100, lit_102, lit_103, lit_104, lit_110, lit_111, lit_115, lit_117, lit_194, lit_200, lit_644, lit_736, lit_999, lit_1000, lit_9999, lit_10000, lit_1000000000, ↓wp_mlet, ↓wp_mbp, ↓wp_ite, ↓wp_mix, ↓wp_mdiv, ↓wp_mnz, ↓wp_some, ↓wp_mbnd, ↓mlet_eq, ↓mbp_eq, ↓mbnd_eq, ↓mix_ite, ↓mdiv_ite, ↓mnz_ite, nI_add, nI_mul, nI_nat, nI_ltE, nI_leE, nI_eqE, nI_eqN, nI_Neq, nI_Nlt, nI_Nle, nI_ltN, nI_leN, ↓reduceIte, ↓Nat.reduceEqDiff, and_f, nt_e, nt_t, nl_t, nl_f, ne_t, ne_f, and_self, or_self, or_true, true_or, or_false, false_or, if_true, if_false, and_true, true_and, and_false, false_and, not_true, not_false_iff])
  have := key 92 N 0 (fun M7 => some ((), M7)) (by omega) (by omega)
  rw [fil_0] at this
  simp only [lit_0, lit_1, lit_2, lit_3, lit_4, lit_5, lit_6, lit_7, lit_8, lit_9, lit_10, lit_11, lit_12, lit_13, lit_14, lit_15, lit_16, lit_20, lit_23, lit_24, lit_31, lit_32, lit_39, lit_43, lit_45, lit_47, lit_48, lit_56, lit_57, lit_59, lit_60, lit_62, lit_63, lit_89, lit_92, lit_96, lit_97, lit_99, lit_100, lit_102, lit_103, lit_104, lit_110, lit_111, lit_115, lit_117, lit_194, lit_200, lit_644, lit_736, lit_999, lit_1000, lit_9999, lit_10000, lit_1000000000, mlet_eq]
  exact this
theorem m_shift {M : Mem} {N : Nat} (hN : 1000 = N) (kk : Mem → Option (Int32 × Mem)) : f_X12_changed_L11 N (nI 0) M kk = kk (fil M 12 51 0 644 (fun j => M 12 51 (j + 92))) := by
  have key := mloop (F := fun n x s kk => f_X12_changed_L11 n x s kk) (c := 644) (fun x => fil M 12 51 0 x (fun j => M 12 51 (j + 92))) (fun m x kk hx => by
    rw [f_X12_changed_L11.eq_2]
    have e : (fil M 12 51 0 x (fun j => M 12 51 (j + 92))) 12 51 (x + 92) = M 12 51 (x + 92) := by rw [fil_at, if_neg (by omega)]
    simp (disch := omega) only [lit_0, lit_1, lit_2, lit_3, lit_4, lit_5, lit_6, lit_7, lit_8, lit_9, lit_10, lit_11, lit_12, lit_13, lit_14, lit_15, lit_16, lit_20, lit_23, lit_24, lit_31, lit_32, lit_39, lit_43, lit_45, lit_47, lit_48, lit_56, lit_57, lit_59, lit_60, lit_62, lit_63, lit_89, lit_92, lit_96, lit_97, lit_99, lit_100, lit_102, lit_103, lit_104, lit_110, lit_111, lit_115, lit_117, lit_194, lit_200, lit_644, lit_736, lit_999, lit_1000, lit_9999, lit_10000, lit_1000000000, ↓wp_mlet, ↓wp_mbp, ↓wp_ite, ↓wp_mix, ↓wp_mdiv, ↓wp_mnz, ↓wp_some, ↓wp_mbnd, ↓mlet_eq, ↓mbp_eq, ↓mbnd_eq, ↓mix_ite, ↓mdiv_ite, ↓mnz_ite, nI_add, nI_mul, nI_nat, nI_ltE, nI_leE, nI_eqE, nI_eqN, nI_Neq, nI_Nlt, nI_Nle, nI_ltN, nI_leN, ↓reduceIte, ↓Nat.reduceEqDiff, and_f, nt_e, nt_t, nl_t, nl_f, ne_t, ne_f, and_self, or_self, or_true, true_or, or_false, false_or, if_true, if_false, and_true, true_and, and_false, false_and, not_true, not_false_iff, e]
    rw [fil_s (Nat.zero_le _) rfl]) (fun m kk => by
    rw [f_X12_changed_L11.eq_2]
    simp (disch := omega) only [lit_0, lit_1, lit_2, lit_3, lit_4, lit_5, lit_6, lit_7, lit_8, lit_9, lit_10, lit_11, lit_12, lit_13, lit_14, lit_15, lit_16, lit_20, lit_23, lit_24, lit_31, lit_32, lit_39, lit_43, lit_45, lit_47, lit_48, lit_56, lit_57, lit_59, lit_60, lit_62, lit_63, lit_89, lit_92, lit_96, lit_97, lit_99, lit_100, lit_102, lit_103, lit_104, lit_110, lit_111, lit_115, lit_117, lit_194, lit_200, lit_644, lit_736, lit_999, lit_1000, lit_9999, lit_10000, lit_1000000000, ↓wp_mlet, ↓wp_mbp, ↓wp_ite, ↓wp_mix, ↓wp_mdiv, ↓wp_mnz, ↓wp_some, ↓wp_mbnd, ↓mlet_eq, ↓mbp_eq, ↓mbnd_eq, ↓mix_ite, ↓mdiv_ite, ↓mnz_ite, nI_add, nI_mul, nI_nat, nI_ltE, nI_leE, nI_eqE, nI_eqN, nI_Neq, nI_Nlt, nI_Nle, nI_ltN, nI_leN, ↓reduceIte, ↓Nat.reduceEqDiff, and_f, nt_e, nt_t, nl_t, nl_f, ne_t, ne_f, and_self, or_self, or_true, true_or, or_false, false_or, if_true, if_false, and_true, true_and, and_false, false_and, not_true, not_false_iff])
  have := key 644 N 0 kk (by omega) (by omega)
  rw [fil_0] at this
  exact this
theorem m_push {M : Mem} {N K : Nat} {a : Int32} (hN : 1000 = N) (hK : K < 8) (h6 : M 12 47 6 = nI (K + 1)) : f_X12_changed_L54 N (nI 0) M (fun M16 => some (a, M16)) = some (a, fil M 12 51 (92 * K) (92 * K + 92) (fun j => M 12 49 (j - 92 * K))) := by
  have key := mloop (F := fun n x s kk => f_X12_changed_L54 n x s kk) (c := 92) (fun x => fil M 12 51 (92 * K) (92 * K + x) (fun j => M 12 49 (j - 92 * K))) (fun m x kk hx => by
    rw [f_X12_changed_L54.eq_2]
    have e : (fil M 12 51 (92 * K) (92 * K + x) (fun j => M 12 49 (j - 92 * K))) 12 49 x = M 12 49 x := by rw [fil_ne (by decide)]
    have e6 : (fil M 12 51 (92 * K) (92 * K + x) (fun j => M 12 49 (j - 92 * K))) 12 47 6 = nI (K + 1) := by rw [fil_ne (by decide), h6]
    simp (disch := omega) only [lit_0, lit_1, lit_2, lit_3, lit_4, lit_5, lit_6, lit_7, lit_8, lit_9, lit_10, lit_11, lit_12, lit_13, lit_14, lit_15, lit_16, lit_20, lit_23, lit_24, lit_31, lit_32, lit_39, lit_43, lit_45, lit_47, lit_48, lit_56, lit_57, lit_59, lit_60, lit_62, lit_63, lit_89, lit_92, lit_96, lit_97, lit_99, lit_100, lit_102, lit_103, lit_104, lit_110, lit_111, lit_115, lit_117, lit_194, lit_200, lit_644, lit_736, lit_999, lit_1000, lit_9999, lit_10000, lit_1000000000, ↓wp_mlet, ↓wp_mbp, ↓wp_ite, ↓wp_mix, ↓wp_mdiv, ↓wp_mnz, ↓wp_some, ↓wp_mbnd, ↓mlet_eq, ↓mbp_eq, ↓mbnd_eq, ↓mix_ite, ↓mdiv_ite, ↓mnz_ite, nI_add, nI_mul, nI_nat, nI_ltE, nI_leE, nI_eqE, nI_eqN, nI_Neq, nI_Nlt, nI_Nle, nI_ltN, nI_leN, ↓reduceIte, ↓Nat.reduceEqDiff, and_f, nt_e, nt_t, nl_t, nl_f, ne_t, ne_f, and_self, or_self, or_true, true_or, or_false, false_or, if_true, if_false, and_true, true_and, and_false, false_and, not_true, not_false_iff, e, e6, nI_subE, Nat.add_sub_cancel]
    rw [fil_s (by omega) (by rw [show 92 * K + x - 92 * K = x by omega])]
    rfl) (fun m kk => by
    rw [f_X12_changed_L54.eq_2]
    simp (disch := omega) only [lit_0, lit_1, lit_2, lit_3, lit_4, lit_5, lit_6, lit_7, lit_8, lit_9, lit_10, lit_11, lit_12, lit_13, lit_14, lit_15, lit_16, lit_20, lit_23, lit_24, lit_31, lit_32, lit_39, lit_43, lit_45, lit_47, lit_48, lit_56, lit_57, lit_59, lit_60, lit_62, lit_63, lit_89, lit_92, lit_96, lit_97, lit_99, lit_100, lit_102, lit_103, lit_104, lit_110, lit_111, lit_115, lit_117, lit_194, lit_200, lit_644, lit_736, lit_999, lit_1000, lit_9999, lit_10000, lit_1000000000, ↓wp_mlet, ↓wp_mbp, ↓wp_ite, ↓wp_mix, ↓wp_mdiv, ↓wp_mnz, ↓wp_some, ↓wp_mbnd, ↓mlet_eq, ↓mbp_eq, ↓mbnd_eq, ↓mix_ite, ↓mdiv_ite, ↓mnz_ite, nI_add, nI_mul, nI_nat, nI_ltE, nI_leE, nI_eqE, nI_eqN, nI_Neq, nI_Nlt, nI_Nle, nI_ltN, nI_leN, ↓reduceIte, ↓Nat.reduceEqDiff, and_f, nt_e, nt_t, nl_t, nl_f, ne_t, ne_f, and_self, or_self, or_true, true_or, or_false, false_or, if_true, if_false, and_true, true_and, and_false, false_and, not_true, not_false_iff])
  have := key 92 N 0 (fun M16 => some (a, M16)) (by omega) (by omega)
  rw [show 92 * K + 0 = 92 * K from rfl, fil_0] at this
  exact this
/-- the states that can be undone: k of them, the oldest first -/
def Hs (M : Mem) (αh : Nat → Sp) (K nx : Nat) : Prop := nx < 9 ∧ K ≤ 8 ∧ M 12 17 1 = nI nx ∧ M 12 17 2 = nI K ∧ M 12 47 6 = nI K ∧ (∀ k, k < K → RC (M (1 + (nx + 9 - K + k) % 9)) (αh k)) ∧ ∀ k, k < K → ∀ j, j < 92 → M 12 51 (92 * k + j) = enc (αh k) j
def pushH (αh : Nat → Sp) (K : Nat) (α : Sp) : Nat → Sp := fun k => if K = 8 then (if k = 7 then α else αh (k + 1)) else if k = K then α else αh k
def minK (K : Nat) : Nat := if K = 8 then 8 else K + 1
theorem m_changed {M : Mem} {αh : Nat → Sp} {α : Sp} {K nx : Nat} {a : Int32} (hK : K ≤ 8) (h6 : M 12 47 6 = nI K) (hh : ∀ k, k < K → ∀ j, j < 92 → M 12 51 (92 * k + j) = enc (αh k) j) (hf : ∀ j, j < 92 → M 12 49 j = enc α j) :
    wp (f_X12_changed a M) (fun r M1 => r = a ∧ M1 12 47 6 = nI (minK K) ∧ (∀ k, k < minK K → ∀ j, j < 92 → M1 12 51 (92 * k + j) = enc (pushH αh K α k) j) ∧ (∀ i, i ≠ 6 → M1 12 47 i = M 12 47 i) ∧ ∀ a b, ¬ (a = 12 ∧ (b = 47 ∨ b = 51)) → M1 a b = M a b) := by
  unfold f_X12_changed
  generalize hN : (1000 : Nat) = N
  by_cases h8 : K = 8
  · subst h8
    simp (disch := omega) only [lit_0, lit_1, lit_2, lit_3, lit_4, lit_5, lit_6, lit_7, lit_8, lit_9, lit_10, lit_11, lit_12, lit_13, lit_14, lit_15, lit_16, lit_20, lit_23, lit_24, lit_31, lit_32, lit_39, lit_43, lit_45, lit_47, lit_48, lit_56, lit_57, lit_59, lit_60, lit_62, lit_63, lit_89, lit_92, lit_96, lit_97, lit_99, lit_100, lit_102, lit_103, lit_104, lit_110, lit_111, lit_115, lit_117, lit_194, lit_200, lit_644, lit_736, lit_999, lit_1000, lit_9999, lit_10000, lit_1000000000, ↓wp_mlet, ↓wp_mbp, ↓wp_ite, ↓wp_mix, ↓wp_mdiv, ↓wp_mnz, ↓wp_some, ↓wp_mbnd, ↓mlet_eq, ↓mbp_eq, ↓mbnd_eq, ↓mix_ite, ↓mdiv_ite, ↓mnz_ite, nI_add, nI_mul, nI_nat, nI_ltE, nI_leE, nI_eqE, nI_eqN, nI_Neq, nI_Nlt, nI_Nle, nI_ltN, nI_leN, ↓reduceIte, ↓Nat.reduceEqDiff, and_f, nt_e, nt_t, nl_t, nl_f, ne_t, ne_f, and_self, or_self, or_true, true_or, or_false, false_or, if_true, if_false, and_true, true_and, and_false, false_and, not_true, not_false_iff, h6]
    rw [m_shift hN]
    rw [m_push (K := 7) hN (by decide) (by rw [fil_ne (by decide), h6])]
    rw [wp_some]
    refine ⟨rfl, ?_, fun k hk j hj => ?_, fun i hi => ?_, fun a b hab => ?_⟩
    · rw [fil_ne (by decide), fil_ne (by decide), h6]
      rfl
    · have hk8 : k < 8 := hk
      unfold pushH
      rw [if_pos rfl]
      by_cases q : k = 7
      · subst q
        rw [if_pos rfl, fil_at, if_pos (by omega), fil_ne (by decide), show 92 * 7 + j - 92 * 7 = j by omega]
        exact hf j hj
      · rw [if_neg q, fil_at, if_neg (by omega), fil_at, if_pos (by omega), show 92 * k + j + 92 = 92 * (k + 1) + j by omega]
        exact hh (k + 1) (by omega) j hj
    · rw [fil_ne (by decide), fil_ne (by decide)]
    · rw [fil_ne (by omega), fil_ne (by omega)]
  · simp (disch := omega) only [lit_0, lit_1, lit_2, lit_3, lit_4, lit_5, lit_6, lit_7, lit_8, lit_9, lit_10, lit_11, lit_12, lit_13, lit_14, lit_15, lit_16, lit_20, lit_23, lit_24, lit_31, lit_32, lit_39, lit_43, lit_45, lit_47, lit_48, lit_56, lit_57, lit_59, lit_60, lit_62, lit_63, lit_89, lit_92, lit_96, lit_97, lit_99, lit_100, lit_102, lit_103, lit_104, lit_110, lit_111, lit_115, lit_117, lit_194, lit_200, lit_644, lit_736, lit_999, lit_1000, lit_9999, lit_10000, lit_1000000000, ↓wp_mlet, ↓wp_mbp, ↓wp_ite, ↓wp_mix, ↓wp_mdiv, ↓wp_mnz, ↓wp_some, ↓wp_mbnd, ↓mlet_eq, ↓mbp_eq, ↓mbnd_eq, ↓mix_ite, ↓mdiv_ite, ↓mnz_ite, nI_add, nI_mul, nI_nat, nI_ltE, nI_leE, nI_eqE, nI_eqN, nI_Neq, nI_Nlt, nI_Nle, nI_ltN, nI_leN, ↓reduceIte, ↓Nat.reduceEqDiff, and_f, nt_e, nt_t, nl_t, nl_f, ne_t, ne_f, and_self, or_self, or_true, true_or, or_false, false_or, if_true, if_false, and_true, true_and, and_false, false_and, not_true, not_false_iff, h6]
    rw [m_push (K := K) hN (by omega) (by rw [mup_at, if_pos (by decide)])]
    rw [wp_some]
    have eK : minK K = K + 1 := by unfold minK; rw [if_neg h8]
    rw [eK]
    refine ⟨rfl, ?_, fun k hk j hj => ?_, fun i hi => ?_, fun a b hab => ?_⟩
    · rw [fil_ne (by decide), mup_at, if_pos (by decide)]
    · unfold pushH
      rw [if_neg h8]
      by_cases q : k = K
      · subst q
        rw [if_pos rfl, fil_at, if_pos (by omega), pm_ne (by decide), show 92 * k + j - 92 * k = j by omega]
        exact hf j hj
      · rw [if_neg q, fil_at, if_neg (by omega), pm_ne (by decide)]
        exact hh k (by omega) j hj
    · rw [fil_ne (by decide), mup_at, if_neg (by omega)]
    · rw [fil_ne (by omega), pm_ne (by omega)]
theorem c_prepare {M : Mem} {α : Sp} {nx : Nat} (hx : nx < 9) (h1 : M 12 17 1 = nI nx) (hR : RC (M 0) α) (b1 : α 1 ≤ 1) (b6 : α 6 ≤ 1) : wp (f_X4_prepare 0 M) (fun _ M1 => RC (M1 (1 + nx)) α ∧ ∀ a, a ≠ 1 + nx → M1 a = M a) := by
  unfold f_X4_prepare
  simp (disch := omega) only [lit_0, lit_1, lit_2, lit_3, lit_4, lit_5, lit_6, lit_7, lit_8, lit_9, lit_10, lit_11, lit_12, lit_13, lit_14, lit_15, lit_16, lit_20, lit_23, lit_24, lit_31, lit_32, lit_39, lit_43, lit_45, lit_47, lit_48, lit_56, lit_57, lit_59, lit_60, lit_62, lit_63, lit_89, lit_92, lit_96, lit_97, lit_99, lit_100, lit_102, lit_103, lit_104, lit_110, lit_111, lit_115, lit_117, lit_194, lit_200, lit_644, lit_736, lit_999, lit_1000, lit_9999, lit_10000, lit_1000000000, ↓wp_mlet, ↓wp_mbp, ↓wp_ite, ↓wp_mix, ↓wp_mdiv, ↓wp_mnz, ↓wp_some, ↓wp_mbnd, ↓mlet_eq, ↓mbp_eq, ↓mbnd_eq, ↓mix_ite, ↓mdiv_ite, ↓mnz_ite, nI_add, nI_mul, nI_nat, nI_ltE, nI_leE, nI_eqE, nI_eqN, nI_Neq, nI_Nlt, nI_Nle, nI_ltN, nI_leN, ↓reduceIte, ↓Nat.reduceEqDiff, and_f, nt_e, nt_t, nl_t, nl_f, ne_t, ne_f, and_self, or_self, or_true, true_or, or_false, false_or, if_true, if_false, and_true, true_and, and_false, false_and, not_true, not_false_iff, h1]
  refine wp_mono (c_copy (by omega) hR b1 b6) ?_
  rintro - M1 ⟨q1, -, q3⟩
  exact ⟨q1, q3⟩
theorem c_keep {M : Mem} {nx K : Nat} (hx : nx < 9) (hK : K ≤ 8) (h1 : M 12 17 1 = nI nx) (h2 : M 12 17 2 = nI K) : wp (f_X4_keep M) (fun _ M1 => M1 12 17 1 = nI ((nx + 1) % 9) ∧ M1 12 17 2 = nI (minK K) ∧ ∀ a b, ¬ (a = 12 ∧ b = 17) → M1 a b = M a b) := by
  unfold f_X4_keep minK
  by_cases h8 : K = 8
  · simp (disch := omega) only [lit_0, lit_1, lit_2, lit_3, lit_4, lit_5, lit_6, lit_7, lit_8, lit_9, lit_10, lit_11, lit_12, lit_13, lit_14, lit_15, lit_16, lit_20, lit_23, lit_24, lit_31, lit_32, lit_39, lit_43, lit_45, lit_47, lit_48, lit_56, lit_57, lit_59, lit_60, lit_62, lit_63, lit_89, lit_92, lit_96, lit_97, lit_99, lit_100, lit_102, lit_103, lit_104, lit_110, lit_111, lit_115, lit_117, lit_194, lit_200, lit_644, lit_736, lit_999, lit_1000, lit_9999, lit_10000, lit_1000000000, ↓wp_mlet, ↓wp_mbp, ↓wp_ite, ↓wp_mix, ↓wp_mdiv, ↓wp_mnz, ↓wp_some, ↓wp_mbnd, ↓mlet_eq, ↓mbp_eq, ↓mbnd_eq, ↓mix_ite, ↓mdiv_ite, ↓mnz_ite, nI_add, nI_mul, nI_nat, nI_ltE, nI_leE, nI_eqE, nI_eqN, nI_Neq, nI_Nlt, nI_Nle, nI_ltN, nI_leN, ↓reduceIte, ↓Nat.reduceEqDiff, and_f, nt_e, nt_t, nl_t, nl_f, ne_t, ne_f, and_self, or_self, or_true, true_or, or_false, false_or, if_true, if_false, and_true, true_and, and_false, false_and, not_true, not_false_iff, mup_at, up_at, fil_at, ↓reduceIte, ↓Nat.reduceEqDiff, and_f, nt_e, nt_t, nl_t, nl_f, ne_t, ne_f, and_self, or_self, or_true, true_or, or_false, false_or, if_true, if_false, and_true, true_and, and_false, false_and, not_true, not_false_iff, h1, h2, h8, nI_rem]
    intro a b hab
    rw [pm_ne hab, pm_ne hab]
  · simp (disch := omega) only [lit_0, lit_1, lit_2, lit_3, lit_4, lit_5, lit_6, lit_7, lit_8, lit_9, lit_10, lit_11, lit_12, lit_13, lit_14, lit_15, lit_16, lit_20, lit_23, lit_24, lit_31, lit_32, lit_39, lit_43, lit_45, lit_47, lit_48, lit_56, lit_57, lit_59, lit_60, lit_62, lit_63, lit_89, lit_92, lit_96, lit_97, lit_99, lit_100, lit_102, lit_103, lit_104, lit_110, lit_111, lit_115, lit_117, lit_194, lit_200, lit_644, lit_736, lit_999, lit_1000, lit_9999, lit_10000, lit_1000000000, ↓wp_mlet, ↓wp_mbp, ↓wp_ite, ↓wp_mix, ↓wp_mdiv, ↓wp_mnz, ↓wp_some, ↓wp_mbnd, ↓mlet_eq, ↓mbp_eq, ↓mbnd_eq, ↓mix_ite, ↓mdiv_ite, ↓mnz_ite, nI_add, nI_mul, nI_nat, nI_ltE, nI_leE, nI_eqE, nI_eqN, nI_Neq, nI_Nlt, nI_Nle, nI_ltN, nI_leN, ↓reduceIte, ↓Nat.reduceEqDiff, and_f, nt_e, nt_t, nl_t, nl_f, ne_t, ne_f, and_self, or_self, or_true, true_or, or_false, false_or, if_true, if_false, and_true, true_and, and_false, false_and, not_true, not_false_iff, mup_at, up_at, fil_at, ↓reduceIte, ↓Nat.reduceEqDiff, and_f, nt_e, nt_t, nl_t, nl_f, ne_t, ne_f, and_self, or_self, or_true, true_or, or_false, false_or, if_true, if_false, and_true, true_and, and_false, false_and, not_true, not_false_iff, h1, h2, h8, nI_rem]
    intro a b hab
    rw [pm_ne hab, pm_ne hab]
/-! CLASS AND MODEL, SIDE BY SIDE -/
theorem Inv.mono {H H' : Nat} {α : Sp} (h : Inv H α) (hH : H ≤ H') : Inv H' α := by
  obtain ⟨⟨b0, b1, b2, b3, b4, b5, b6, b7, b8, b9, b10, b11, b14⟩, h2⟩ := h
  exact ⟨⟨b0, b1, b2, b3, b4, b5, b6, b7, b8, b9, b10, Nat.le_trans b11 hH, b14⟩, h2⟩
/-- refusals -/
def Rr (M : Mem) : Prop := ∃ w c, w ≤ 11 ∧ c ≤ 12 ∧ M 12 47 16 = nI w ∧ M 12 16 8 = (if w = 0 then -nI 1 else nI w) ∧ (w ≠ 0 → M 12 16 9 = M 12 47 17) ∧ M 12 47 18 = nI c ∧ M 12 16 10 = (if c = 0 then -nI 1 else nI c)
/-- the error position -/
def Re (M : Mem) : Prop := M 12 16 11 = M 12 47 14 ∧ (M 12 47 14 = -nI 1 ∨ ∃ e, e ≤ 60 ∧ M 12 47 14 = nI e)
/-- the input -/
def Ri (M : Mem) (fed : Nat) : Prop := fed ≤ 60 ∧ M 12 26 1 = nI fed ∧ M 12 47 12 = nI fed ∧ ∀ i, i < fed → ∃ c, c < 65536 ∧ M 12 27 i = nI c ∧ M 12 53 i = nI c
/-- the output -/
def Ro (M : Mem) : Prop := ∃ ol, ol ≤ 140 ∧ M 12 45 1 = nI ol ∧ M 12 47 13 = nI ol ∧ ∀ i, i < ol → ∃ c, c < 65536 ∧ M 12 46 i = nI c ∧ M 12 55 i = nI c
/-- the saved state -/
def Rs (M : Mem) (αs : Sp) (b : Nat) : Prop := b ≤ 1 ∧ M 12 16 3 = nI b ∧ M 12 47 7 = nI b ∧ (b = 1 → RC (M 10) αs ∧ ∀ j, j < 92 → M 12 50 j = enc αs j)
/-- all of it, behind n calls -/
def RelW (n : Nat) (M : Mem) (α : Sp) (αh : Nat → Sp) (αs : Sp) (K nx fed b H : Nat) : Prop := RC (M 0) α ∧ M 12 48 = enc α ∧ Hs M αh K nx ∧ Rs M αs b ∧ (Rr M ∧ Re M ∧ Ri M fed ∧ Ro M) ∧ Inv H α ∧ (∀ k, k < K → Inv H (αh k)) ∧ (b = 1 → Inv H αs) ∧ H + 6 * fed ≤ 24 * n
def Rel (n : Nat) (M : Mem) : Prop := ∃ α αh αs K nx fed b H, RelW n M α αh αs K nx fed b H
def exn (k : Nat) : Nat := if k = 20 then 1 else if k = 21 then 2 else 3
/-- the class's call is done -/
def clsA (M M1 : Mem) (α β : Sp) (nx K : Nat) : Prop := RC (M1 0) β ∧ RC (M1 (1 + nx)) α ∧ M1 12 17 1 = nI ((nx + 1) % 9) ∧ M1 12 17 2 = nI (minK K) ∧ ∀ a b, a ≠ 0 → a ≠ 1 + nx → ¬ (a = 12 ∧ b = 17) → M1 a b = M a b
/-- .. or not -/
def clsB (M M1 : Mem) (nx k d : Nat) : Prop := M1 0 = M 0 ∧ (if k < 20 then M1 12 16 8 = nI k ∧ M1 12 16 9 = nI d ∧ M1 12 16 10 = -nI 1 ∧ ∀ i, i ≠ 8 → i ≠ 9 → i ≠ 10 → M1 12 16 i = M 12 16 i else M1 12 16 = M 12 16) ∧ ∀ a b, a ≠ 0 → a ≠ 1 + nx → ¬ (a = 12 ∧ b = 16) → M1 a b = M a b
theorem cls_call {M : Mem} {α : Sp} {nx K : Nat} {e : Ex} {subj : Int32} {tr : Mem → Option (Int32 × Mem)} {kc : Int32 → Mem → Option ((Nat ⊕ Int32) × Mem)} {Q : (Nat ⊕ Int32) → Mem → Prop}
    (hx : nx < 9) (hK : K ≤ 8) (h1 : M 12 17 1 = nI nx) (h2 : M 12 17 2 = nI K) (hR : RC (M 0) α) (b1 : α 1 ≤ 1) (b6 : α 6 ≤ 1) (hct : ∀ M2, RC (M2 0) α → CT M2 subj e (tr M2))
    (hQA : ∀ ans β, e = .inr (ans, β) → ∀ M1, clsA M M1 α β nx K → wp (kc (nI ans) M1) Q) (hQB : ∀ k d, e = .inl (k, d) → (1 ≤ k ∧ k ≤ 10 ∨ k = 20 ∨ k = 21) ∧ ∀ M1, clsB M M1 nx k d → Q (.inl (exn k)) M1) :
    wp (mbnd (f_X4_prepare 0 M) fun r1 M2 => (mbnd (tr M2) fun r3 M4 => (mbndx (f_X11_settle r3 subj M4) kc))) Q := by
  rw [wp_mbnd]
  refine wp_mono (c_prepare hx h1 hR b1 b6) ?_
  rintro - M2 ⟨p1, p2⟩
  have hR2 : RC (M2 0) α := by rw [p2 0 (by omega)]; exact hR
  have hc := hct M2 hR2
  have e1 : M2 12 17 1 = nI nx := by rw [p2 12 (by omega), h1]
  have e2 : M2 12 17 2 = nI K := by rw [p2 12 (by omega), h2]
  rw [wp_mbnd]
  rcases e with ⟨k, d⟩ | ⟨ans, β⟩
  case inr =>
    have hQ := hQA ans β rfl
    obtain ⟨r, M3, q0, rfl, q1, q2, q3⟩ := hc
    rw [q0, wp_some, wp_inr]
    unfold f_X11_settle
    simp only [lit_0, lit_1, lit_2, lit_3, lit_4, lit_5, lit_6, lit_7, lit_8, lit_9, lit_10, lit_11, lit_12, lit_13, lit_14, lit_15, lit_16, lit_20, lit_23, lit_24, lit_31, lit_32, lit_39, lit_43, lit_45, lit_47, lit_48, lit_56, lit_57, lit_59, lit_60, lit_62, lit_63, lit_89, lit_92, lit_96, lit_97, lit_99, lit_100, lit_102, lit_103, lit_104, lit_110, lit_111, lit_115, lit_117, lit_194, lit_200, lit_644, lit_736, lit_999, lit_1000, lit_9999, lit_10000, lit_1000000000]
    rw [if_neg (by rw [nI_eqN (by decide) (by decide) (by decide)]; exact id), if_neg (by rw [nI_eqN (by decide) (by decide) (by decide)]; exact id), if_pos trivial, wp_mbnd]
    refine wp_mono (c_keep hx hK (by rw [q3 12 (by decide), e1]) (by rw [q3 12 (by decide), e2])) ?_
    rintro - M4 ⟨s1, s2, s3⟩
    have a0 : ∀ b, M4 0 b = M3 0 b := fun b => s3 0 b (by omega)
    rw [wp_some, a0, q2]
    refine hQ M4 ⟨?_, ?_, s1, s2, fun a b x1 x2 x3 => ?_⟩
    · rw [show M4 0 = M3 0 from funext a0]; exact q1
    · rw [show M4 (1 + nx) = M3 (1 + nx) from funext fun b => s3 (1 + nx) b (by omega), q3 (1 + nx) (by omega)]; exact p1
    · rw [s3 a b x3, q3 a x1, p2 a x2]
  case inl =>
    obtain ⟨q0, q1⟩ := hc
    obtain ⟨hk, hQ⟩ := hQB k d rfl
    rw [q0, wp_some, wp_inr]
    unfold f_X11_settle
    simp only [lit_0, lit_1, lit_2, lit_3, lit_4, lit_5, lit_6, lit_7, lit_8, lit_9, lit_10, lit_11, lit_12, lit_13, lit_14, lit_15, lit_16, lit_20, lit_23, lit_24, lit_31, lit_32, lit_39, lit_43, lit_45, lit_47, lit_48, lit_56, lit_57, lit_59, lit_60, lit_62, lit_63, lit_89, lit_92, lit_96, lit_97, lit_99, lit_100, lit_102, lit_103, lit_104, lit_110, lit_111, lit_115, lit_117, lit_194, lit_200, lit_644, lit_736, lit_999, lit_1000, lit_9999, lit_10000, lit_1000000000]
    rcases hk with ⟨k1, k2⟩ | rfl | rfl
    · have ev : vc k = nI k := by unfold vc; rw [if_neg (by omega), if_neg (by omega)]
      rw [ev, if_neg (by rw [nI_eqN (by omega) (by decide) (by decide)]; exact id), if_neg (by rw [nI_eqN (by omega) (by decide) (by decide)]; exact id), if_neg (by rw [nI_eqE (by omega) (by decide)]; omega), q1 (by omega), mbp_eq, wp_mbnd]
      unfold f_X11_keepRefusal
      simp only [mlet_eq, wp_some]
      have ex : exn k = 3 := by unfold exn; rw [if_neg (by omega), if_neg (by omega)]
      rw [ex] at hQ
      refine hQ _ ⟨?_, ?_, fun a b x1 x2 x3 => ?_⟩
      · rw [pm_g (by decide), pm_g (by decide), pm_g (by decide), p2 0 (by omega)]
      · rw [if_pos (by omega)]
        refine ⟨?_, ?_, ?_, fun i i1 i2 i3 => ?_⟩
        · simp (disch := omega) only [mup_at, up_at, fil_at, ↓reduceIte, ↓Nat.reduceEqDiff, and_f, nt_e, nt_t, nl_t, nl_f, ne_t, ne_f, and_self, or_self, or_true, true_or, or_false, false_or, if_true, if_false, and_true, true_and, and_false, false_and, not_true, not_false_iff]
        · simp (disch := omega) only [mup_at, up_at, fil_at, ↓reduceIte, ↓Nat.reduceEqDiff, and_f, nt_e, nt_t, nl_t, nl_f, ne_t, ne_f, and_self, or_self, or_true, true_or, or_false, false_or, if_true, if_false, and_true, true_and, and_false, false_and, not_true, not_false_iff]
        · simp (disch := omega) only [mup_at, up_at, fil_at, ↓reduceIte, ↓Nat.reduceEqDiff, and_f, nt_e, nt_t, nl_t, nl_f, ne_t, ne_f, and_self, or_self, or_true, true_or, or_false, false_or, if_true, if_false, and_true, true_and, and_false, false_and, not_true, not_false_iff]
        · simp (disch := omega) only [mup_at, up_at, fil_at, ↓reduceIte, ↓Nat.reduceEqDiff, and_f, nt_e, nt_t, nl_t, nl_f, ne_t, ne_f, and_self, or_self, or_true, true_or, or_false, false_or, if_true, if_false, and_true, true_and, and_false, false_and, not_true, not_false_iff]
          rw [p2 12 (by omega)]
      · rw [pm_ne x3, pm_ne x3, pm_ne x3, p2 a x2]
    · rw [if_pos (show vc 20 = -nI 1 from rfl), wp_some]
      exact hQ M2 ⟨p2 0 (by omega), by rw [if_neg (by decide), p2 12 (by omega)], fun a b x1 x2 x3 => by rw [p2 a x2]⟩
    · rw [if_neg (show ¬ vc 21 = -nI 1 by rw [show vc 21 = -nI 2 from rfl, nI_NeqN (by decide) (by decide) (by decide) (by decide)]; decide), if_pos (show vc 21 = -nI 2 from rfl), wp_some]
      exact hQ M2 ⟨p2 0 (by omega), by rw [if_neg (by decide), p2 12 (by omega)], fun a b x1 x2 x3 => by rw [p2 a x2]⟩
/-- the model's call is done -/
def modA (M M1 : Mem) (α β : Sp) (αh : Nat → Sp) (K : Nat) : Prop := M1 12 48 = enc β ∧ M1 12 47 0 = nI 0 ∧ M1 12 47 6 = nI (minK K) ∧ (∀ k, k < minK K → ∀ j, j < 92 → M1 12 51 (92 * k + j) = enc (pushH αh K α k) j) ∧ (∀ i, i ≠ 0 → i ≠ 6 → i ≠ 15 → M1 12 47 i = M 12 47 i) ∧ ∀ a b, ¬ (a = 12 ∧ (b = 47 ∨ b = 48 ∨ b = 49 ∨ b = 51 ∨ b = 56)) → M1 a b = M a b
def modB (M M1 : Mem) (k d code : Nat) : Prop := M1 12 48 = M 12 48 ∧ M1 12 47 0 = nI code ∧ (if k < 20 then M1 12 47 16 = nI k ∧ M1 12 47 17 = nI d ∧ M1 12 47 18 = nI 0 ∧ ∀ i, i ≠ 0 → i ≠ 16 → i ≠ 17 → i ≠ 18 → M1 12 47 i = M 12 47 i else ∀ i, i ≠ 0 → M1 12 47 i = M 12 47 i) ∧ ∀ a b, ¬ (a = 12 ∧ (b = 47 ∨ b = 49)) → M1 a b = M a b
theorem mod_call {M : Mem} {α : Sp} {αh : Nat → Sp} {K place c21 : Nat} {e : Ex} {op : Mem → Option (Int32 × Mem)} {km : Int32 → Mem → Option (Int32 × Mem)} {Q : Int32 → Mem → Prop} (hK : K ≤ 8) (hp : 1 ≤ place ∧ place ≤ 9) (hc21 : 1 ≤ c21 ∧ c21 ≤ 9) (hS : M 12 48 = enc α) (h6 : M 12 47 6 = nI K) (hh : ∀ k, k < K → ∀ j, j < 92 → M 12 51 (92 * k + j) = enc (αh k) j) (hmt : ∀ M2, M2 12 48 = enc α → MT M2 c21 e (op M2))
    (hQA : ∀ ans β, e = .inr (ans, β) → ∀ M1, modA M M1 α β αh K → wp (km (nI ans) M1) Q) (hQB : ∀ k d, e = .inl (k, d) → (1 ≤ k ∧ k ≤ 10 ∨ k = 20 ∨ k = 21) ∧ ∀ M1, modB M M1 k d (if k = 20 then 1 else if k = 21 then c21 else place) → wp (km (nI 0) M1) Q) :
    wp (mbnd (f_X12_remembers M) fun r1 M2 => (mbnd (op M2) fun r3 M4 => (mbnd (f_X12_ends r3 (nI place) M4) km))) Q := by
  rw [wp_mbnd, m_remembers, wp_some]
  have hM2 : ∃ M2, M2 = fil (mup M 12 47 0 (nI 0)) 12 49 0 92 (M 12 48) := ⟨_, rfl⟩
  obtain ⟨M2, hM2⟩ := hM2
  rw [← hM2]
  have f48 : M2 12 48 = M 12 48 := by rw [hM2, fil_ne (by decide), pm_ne (by decide)]
  have f51 : M2 12 51 = M 12 51 := by rw [hM2, fil_ne (by decide), pm_ne (by decide)]
  have f49 : ∀ j, j < 92 → M2 12 49 j = enc α j := fun j hj => by rw [hM2, fil_at, if_pos (by omega), hS]
  have f0 : M2 12 47 0 = nI 0 := by rw [hM2, fil_ne (by decide), mup_at, if_pos (by decide)]
  have f47 : ∀ i, i ≠ 0 → M2 12 47 i = M 12 47 i := fun i hi => by rw [hM2, fil_ne (by decide), mup_at, if_neg (by omega)]
  have fo : ∀ a b, ¬ (a = 12 ∧ (b = 47 ∨ b = 49)) → M2 a b = M a b := fun a b hab => by rw [hM2, fil_ne (by omega), pm_ne (by omega)]
  have hc := hmt M2 (by rw [f48, hS])
  rw [wp_mbnd]
  rcases e with ⟨k, d⟩ | ⟨ans, β⟩
  case inr =>
    have hQ := hQA ans β rfl
    obtain ⟨r, M3, q0, rfl, q1, q2, q3, q4⟩ := hc
    rw [q0, wp_some, wp_mbnd]
    unfold f_X12_ends
    simp only [lit_0, lit_1, lit_2, lit_3, lit_4, lit_5, lit_6, lit_7, lit_8, lit_9, lit_10, lit_11, lit_12, lit_13, lit_14, lit_15, lit_16, lit_20, lit_23, lit_24, lit_31, lit_32, lit_39, lit_43, lit_45, lit_47, lit_48, lit_56, lit_57, lit_59, lit_60, lit_62, lit_63, lit_89, lit_92, lit_96, lit_97, lit_99, lit_100, lit_102, lit_103, lit_104, lit_110, lit_111, lit_115, lit_117, lit_194, lit_200, lit_644, lit_736, lit_999, lit_1000, lit_9999, lit_10000, lit_1000000000]
    rw [if_pos trivial, wp_mbnd, q3]
    refine wp_mono (m_changed (nx := 0) (αh := αh) (α := α) (K := K) hK (by rw [q2 6 (by decide), f47 6 (by decide), h6]) (fun k hk j hj => by rw [q4 12 51 (by decide), f51]; exact hh k hk j hj) (fun j hj => by rw [q4 12 49 (by decide)]; exact f49 j hj)) ?_
    rintro r M4 ⟨rfl, s1, s2, s3, s4⟩
    rw [wp_some]
    refine hQ M4 ⟨?_, ?_, s1, s2, fun i i1 i2 i3 => ?_, fun a b hab => ?_⟩
    · rw [s4 12 48 (by decide)]; exact q1
    · rw [s3 0 (by decide), q2 0 (by decide), f0]
    · rw [s3 i i2, q2 i i3, f47 i i1]
    · rw [s4 a b (by omega), q4 a b (by omega), fo a b (by omega)]
  case inl =>
    obtain ⟨hk, hQ⟩ := hQB k d rfl
    by_cases k20 : k < 20
    · have hc' : wp (op M2) fun r M1 => r = -nI k ∧ M1 12 48 = M2 12 48 ∧ (∀ j, j ≠ 16 → j ≠ 17 → j ≠ 18 → M1 12 47 j = M2 12 47 j) ∧ M1 12 47 16 = nI k ∧ M1 12 47 17 = nI d ∧ M1 12 47 18 = nI 0 ∧ ∀ a b, ¬ (a = 12 ∧ b = 47) → M1 a b = M2 a b := by
        unfold MT at hc
        simp only [k20, if_true] at hc
        exact hc
      obtain ⟨r, M3, q0, rfl, q1, q2, q3, q4, q5, q6⟩ := hc'
      rw [q0, wp_some, wp_mbnd]
      unfold f_X12_ends f_X12_fails
      simp only [lit_0, lit_1, lit_2, lit_3, lit_4, lit_5, lit_6, lit_7, lit_8, lit_9, lit_10, lit_11, lit_12, lit_13, lit_14, lit_15, lit_16, lit_20, lit_23, lit_24, lit_31, lit_32, lit_39, lit_43, lit_45, lit_47, lit_48, lit_56, lit_57, lit_59, lit_60, lit_62, lit_63, lit_89, lit_92, lit_96, lit_97, lit_99, lit_100, lit_102, lit_103, lit_104, lit_110, lit_111, lit_115, lit_117, lit_194, lit_200, lit_644, lit_736, lit_999, lit_1000, lit_9999, lit_10000, lit_1000000000]
      rw [if_neg (by rw [nI_Neq (by decide) (by omega) (by omega)]; exact id)]
      simp only [mlet_eq]
      rw [if_neg (by rw [nI_leN (by decide) (by omega) (by omega)]; exact id), wp_mbnd, wp_some, wp_some]
      rw [if_neg (by omega), if_neg (by omega)] at hQ
      refine hQ _ ⟨?_, ?_, ?_, fun a b hab => ?_⟩
      · rw [pm_ne (by decide), q1, f48]
      · rw [mup_at, if_pos (by decide)]
      · rw [if_pos k20]
        refine ⟨?_, ?_, ?_, fun i i0 i1 i2 i3 => ?_⟩
        · rw [mup_at, if_neg (by decide), q3]
        · rw [mup_at, if_neg (by decide), q4]
        · rw [mup_at, if_neg (by decide), q5]
        · rw [mup_at, if_neg (by omega), q2 i i1 i2 i3, f47 i i0]
      · rw [pm_ne (by omega), q6 a b (by omega), fo a b (by omega)]
    · have hc' : op M2 = some (nI (if k = 20 then 1 else c21), M2) := by
        unfold MT at hc
        simp only [k20, if_false] at hc
        exact hc
      rw [hc', wp_some, wp_mbnd]
      have hcd : (if k = 20 then 1 else if k = 21 then c21 else place) = (if k = 20 then 1 else c21) := by
        rcases (show k = 20 ∨ k = 21 by omega) with rfl | rfl <;> rfl
      rw [hcd] at hQ
      have hcp : 1 ≤ (if k = 20 then 1 else c21) ∧ (if k = 20 then 1 else c21) ≤ 9 := by split <;> omega
      revert hQ hcp
      generalize (if k = 20 then 1 else c21) = cd
      intro hQ hcp
      unfold f_X12_ends f_X12_fails
      simp only [lit_0, lit_1, lit_2, lit_3, lit_4, lit_5, lit_6, lit_7, lit_8, lit_9, lit_10, lit_11, lit_12, lit_13, lit_14, lit_15, lit_16, lit_20, lit_23, lit_24, lit_31, lit_32, lit_39, lit_43, lit_45, lit_47, lit_48, lit_56, lit_57, lit_59, lit_60, lit_62, lit_63, lit_89, lit_92, lit_96, lit_97, lit_99, lit_100, lit_102, lit_103, lit_104, lit_110, lit_111, lit_115, lit_117, lit_194, lit_200, lit_644, lit_736, lit_999, lit_1000, lit_9999, lit_10000, lit_1000000000]
      rw [if_neg (by rw [nI_eqE (by omega) (by decide)]; omega)]
      simp only [mlet_eq]
      rw [if_pos (by rw [nI_leE (by decide) (by omega)]; omega), wp_mbnd, wp_some, wp_some]
      refine hQ _ ⟨?_, ?_, ?_, fun a b hab => ?_⟩
      · rw [pm_ne (by decide), f48]
      · rw [mup_at, if_pos (by decide)]
      · rw [if_neg k20]
        intro i hi
        rw [mup_at, if_neg (by omega), f47 i hi]
      · rw [pm_ne (by omega), fo a b (by omega)]
theorem Hs_push {M M1 M2 : Mem} {α : Sp} {αh : Nat → Sp} {K nx : Nat} (h : Hs M αh K nx) (hp : RC (M2 (1 + nx)) α) (e1 : M2 12 17 1 = nI ((nx + 1) % 9)) (e2 : M2 12 17 2 = nI (minK K)) (e6 : M2 12 47 6 = nI (minK K)) (he : ∀ k, k < minK K → ∀ j, j < 92 → M2 12 51 (92 * k + j) = enc (pushH αh K α k) j) (hg : ∀ a, 1 ≤ a → a ≤ 9 → a ≠ 1 + nx → M2 a = M a) : Hs M2 (pushH αh K α) (minK K) ((nx + 1) % 9) := by
  obtain ⟨h1, h2, h3, h4, h5, h6, h7⟩ := h
  have hm : minK K ≤ 8 := by unfold minK; split <;> omega
  refine ⟨by omega, hm, e1, e2, e6, fun k hk => ?_, he⟩
  unfold pushH
  by_cases h8 : K = 8
  · have em : minK K = 8 := by unfold minK; rw [if_pos h8]
    rw [em] at hk ⊢
    rw [if_pos h8]
    by_cases q : k = 7
    · rw [if_pos q, show 1 + ((nx + 1) % 9 + 9 - 8 + k) % 9 = 1 + nx by omega]
      exact hp
    · rw [if_neg q, show 1 + ((nx + 1) % 9 + 9 - 8 + k) % 9 = 1 + (nx + 9 - K + (k + 1)) % 9 by omega, hg _ (by omega) (by omega) (by omega)]
      exact h6 (k + 1) (by omega)
  · have em : minK K = K + 1 := by unfold minK; rw [if_neg h8]
    rw [em] at hk ⊢
    rw [if_neg h8]
    by_cases q : k = K
    · rw [if_pos q, show 1 + ((nx + 1) % 9 + 9 - (K + 1) + k) % 9 = 1 + nx by omega]
      exact hp
    · rw [if_neg q, show 1 + ((nx + 1) % 9 + 9 - (K + 1) + k) % 9 = 1 + (nx + 9 - K + k) % 9 by omega, hg _ (by omega) (by omega) (by omega)]
      exact h6 k (by omega)
theorem Hs_same {M M2 : Mem} {αh : Nat → Sp} {K nx : Nat} (h : Hs M αh K nx) (e1 : M2 12 17 = M 12 17) (e6 : M2 12 47 6 = M 12 47 6) (he : M2 12 51 = M 12 51) (hg : ∀ a, 1 ≤ a → a ≤ 9 → a ≠ 1 + nx → M2 a = M a) : Hs M2 αh K nx := by
  obtain ⟨h1, h2, h3, h4, h5, h6, h7⟩ := h
  refine ⟨h1, h2, by rw [e1]; exact h3, by rw [e1]; exact h4, by rw [e6]; exact h5, fun k hk => ?_, fun k hk j hj => by rw [he]; exact h7 k hk j hj⟩
  rw [hg _ (by omega) (by omega) (by omega)]
  exact h6 k hk
theorem Rs_same {M M2 : Mem} {αs : Sp} {b : Nat} (h : Rs M αs b) (e1 : M2 12 16 3 = M 12 16 3) (e2 : M2 12 47 7 = M 12 47 7) (e3 : M2 10 = M 10) (e4 : M2 12 50 = M 12 50) : Rs M2 αs b := by
  obtain ⟨h1, h2, h3, h4⟩ := h
  exact ⟨h1, by rw [e1]; exact h2, by rw [e2]; exact h3, fun hb => ⟨by rw [e3]; exact (h4 hb).1, fun j hj => by rw [e4]; exact (h4 hb).2 j hj⟩⟩
theorem Ri_same {M M2 : Mem} {fed : Nat} (h : Ri M fed) (e1 : M2 12 26 1 = M 12 26 1) (e2 : M2 12 47 12 = M 12 47 12) (e3 : M2 12 27 = M 12 27) (e4 : M2 12 53 = M 12 53) : Ri M2 fed := by
  obtain ⟨h1, h2, h3, h4⟩ := h
  exact ⟨h1, by rw [e1]; exact h2, by rw [e2]; exact h3, fun i hi => by rw [e3, e4]; exact h4 i hi⟩
theorem Ro_same {M M2 : Mem} (h : Ro M) (e1 : M2 12 45 = M 12 45) (e2 : M2 12 47 13 = M 12 47 13) (e3 : M2 12 46 = M 12 46) (e4 : M2 12 55 = M 12 55) : Ro M2 := by
  obtain ⟨ol, h1, h2, h3, h4⟩ := h
  exact ⟨ol, h1, by rw [e1]; exact h2, by rw [e2]; exact h3, fun i hi => by rw [e3, e4]; exact h4 i hi⟩
theorem Re_same {M M2 : Mem} (h : Re M) (e1 : M2 12 16 11 = M 12 16 11) (e2 : M2 12 47 14 = M 12 47 14) : Re M2 := by
  obtain ⟨h1, h2⟩ := h
  exact ⟨by rw [e1, e2]; exact h1, by rw [e2]; exact h2⟩
theorem Rr_same {M M2 : Mem} (h : Rr M) (e1 : ∀ i, 8 ≤ i → i ≤ 10 → M2 12 16 i = M 12 16 i) (e2 : ∀ i, 16 ≤ i → i ≤ 18 → M2 12 47 i = M 12 47 i) : Rr M2 := by
  obtain ⟨w, c, h1, h2, h3, h4, h5, h6, h7⟩ := h
  refine ⟨w, c, h1, h2, ?_, ?_, fun hw => ?_, ?_, ?_⟩
  · rw [e2 16 (by decide) (by decide)]; exact h3
  · rw [e1 8 (by decide) (by decide)]; exact h4
  · rw [e1 9 (by decide) (by decide), e2 17 (by decide) (by decide)]; exact h5 hw
  · rw [e2 18 (by decide) (by decide)]; exact h6
  · rw [e1 10 (by decide) (by decide)]; exact h7
/-- a recorded call: the class, then the model -/
theorem rel_op {n place c21 : Nat} {M : Mem} {e : Sp → Ex} {subj : Int32} {tr op : Mem → Option (Int32 × Mem)} {gc gm : Int32 → Int32} {kc : Int32 → Mem → Option ((Nat ⊕ Int32) × Mem)} {km : Int32 → Mem → Option (Int32 × Mem)}
    (hr : Rel n M) (hn : n < 512) (hp : 1 ≤ place ∧ place ≤ 9) (hc21 : 1 ≤ c21 ∧ c21 ≤ 9)
    (hct : ∀ (M2 : Mem) (α : Sp) (H : Nat), RC (M2 0) α → Inv H α → H < 900000 → CT M2 subj (e α) (tr M2)) (hmt : ∀ (M2 : Mem) (α : Sp) (H : Nat), M2 12 48 = enc α → Inv H α → H < 900000 → MT M2 c21 (e α) (op M2))
    (hinv : ∀ α H ans β, Inv H α → H < 900000 → e α = .inr (ans, β) → Inv (H + 24) β) (hk : ∀ α k d, e α = .inl (k, d) → 1 ≤ k ∧ k ≤ 10 ∨ k = 20 ∨ k = 21) (hkc : ∀ r M1, kc r M1 = some (.inr (gc r), M1)) (hkm : ∀ r M1, km r M1 = some (gm r, M1)) :
    wp (mbnd (f_X4_prepare 0 M) fun r1 M2 => (mbnd (tr M2) fun r3 M4 => (mbndx (f_X11_settle r3 subj M4) kc))) (fun o M1 => wp (mbnd (f_X12_remembers M1) fun r1 M2 => (mbnd (op M2) fun r3 M4 => (mbnd (f_X12_ends r3 (nI place) M4) km))) (fun r M2 => Rel (n + 1) M2 ∧ ∃ α H, Inv H α ∧ ((∃ ans β, e α = .inr (ans, β) ∧ o = .inr (gc (nI ans)) ∧ M2 12 47 0 = nI 0 ∧ r = gm (nI ans)) ∨ ∃ k d, e α = .inl (k, d) ∧ o = .inl (exn k) ∧ M2 12 47 0 = nI (if k = 20 then 1 else if k = 21 then c21 else place)))) := by
  obtain ⟨α, αh, αs, K, nx, fed, b, H, hR, hS, hH, hs, ⟨hr1, hr2, hr3, hr4⟩, hi, hih, his, hb⟩ := hr
  obtain ⟨x1, x2, x3, x4, x5, x6, x7⟩ := id hH
  have hi' := hi
  obtain ⟨⟨b0, b1, b2, b3, b4, b5, b6, b7, b8, b9, b10, b11, b14⟩, -⟩ := hi'
  refine cls_call (α := α) (e := e α) x1 x2 x3 x4 hR b1 b6 (fun M2 h => hct M2 α H h hi (by omega)) ?_ ?_
  · intro ans β he M1 ⟨a1, a2, a3, a4, a5⟩
    rw [hkc, wp_some]
    have f48 : M1 12 48 = M 12 48 := a5 12 48 (by decide) (by omega) (by decide)
    have f47 : M1 12 47 = M 12 47 := a5 12 47 (by decide) (by omega) (by decide)
    have f51 : M1 12 51 = M 12 51 := a5 12 51 (by decide) (by omega) (by decide)
    refine mod_call (α := α) (αh := αh) (K := K) (e := e α) x2 hp hc21 (by rw [f48]; exact hS) (by rw [f47]; exact x5) (fun k hk j hj => by rw [f51]; exact x7 k hk j hj) (fun M2 h => hmt M2 α H h hi (by omega)) ?_ ?_
    · intro ans' β' he' M2 ⟨c1, c2, c3, c4, c5, c6⟩
      rw [he] at he'
      cases he'
      rw [hkm, wp_some]
      refine ⟨⟨β, pushH αh K α, αs, minK K, (nx + 1) % 9, fed, b, H + 24, ?_, c1, ?_, ?_, ⟨?_, ?_, ?_, ?_⟩, hinv α H ans β hi (by omega) he, fun k hk => ?_, fun q => (his q).mono (by omega), by omega⟩, α, H, hi, Or.inl ⟨ans, β, he, rfl, c2, rfl⟩⟩
      · rw [show M2 0 = M1 0 from funext fun b => c6 0 b (by omega)]; exact a1
      · refine Hs_push (M1 := M1) hH ?_ ?_ ?_ c3 c4 (fun a q1 q2 q3 => ?_)
        · rw [show M2 (1 + nx) = M1 (1 + nx) from funext fun b => c6 (1 + nx) b (by omega)]; exact a2
        · rw [c6 12 17 (by decide)]; exact a3
        · rw [c6 12 17 (by decide)]; exact a4
        · funext b
          rw [c6 a b (by omega), a5 a b (by omega) q3 (by omega)]
      · refine Rs_same hs ?_ ?_ ?_ ?_
        · rw [c6 12 16 (by decide), a5 12 16 (by decide) (by omega) (by decide)]
        · rw [c5 7 (by decide) (by decide) (by decide), f47]
        · funext b
          rw [c6 10 b (by omega), a5 10 b (by decide) (by omega) (by omega)]
        · rw [c6 12 50 (by decide), a5 12 50 (by decide) (by omega) (by decide)]
      · refine Rr_same hr1 (fun i _ _ => ?_) (fun i _ _ => ?_)
        · rw [c6 12 16 (by decide), a5 12 16 (by decide) (by omega) (by decide)]
        · rw [c5 i (by omega) (by omega) (by omega), f47]
      · refine Re_same hr2 ?_ ?_
        · rw [c6 12 16 (by decide), a5 12 16 (by decide) (by omega) (by decide)]
        · rw [c5 14 (by decide) (by decide) (by decide), f47]
      · refine Ri_same hr3 ?_ ?_ ?_ ?_
        · rw [c6 12 26 (by decide), a5 12 26 (by decide) (by omega) (by decide)]
        · rw [c5 12 (by decide) (by decide) (by decide), f47]
        · rw [c6 12 27 (by decide), a5 12 27 (by decide) (by omega) (by decide)]
        · rw [c6 12 53 (by decide), a5 12 53 (by decide) (by omega) (by decide)]
      · refine Ro_same hr4 ?_ ?_ ?_ ?_
        · rw [c6 12 45 (by decide), a5 12 45 (by decide) (by omega) (by decide)]
        · rw [c5 13 (by decide) (by decide) (by decide), f47]
        · rw [c6 12 46 (by decide), a5 12 46 (by decide) (by omega) (by decide)]
        · rw [c6 12 55 (by decide), a5 12 55 (by decide) (by omega) (by decide)]
      · unfold pushH
        unfold minK at hk
        split
        · split
          · exact hi.mono (by omega)
          · rename_i q1 q2
            rw [if_pos q1] at hk
            exact (hih (k + 1) (by omega)).mono (by omega)
        · split
          · exact hi.mono (by omega)
          · rename_i q1 q2
            rw [if_neg q1] at hk
            exact (hih k (by omega)).mono (by omega)
    · intro k d he'
      rw [he] at he'
      cases he'
  · intro k d he
    refine ⟨hk α k d he, fun M1 ⟨a1, a2, a3⟩ => ?_⟩
    have f48 : M1 12 48 = M 12 48 := a3 12 48 (by decide) (by omega) (by decide)
    have f47 : M1 12 47 = M 12 47 := a3 12 47 (by decide) (by omega) (by decide)
    have f51 : M1 12 51 = M 12 51 := a3 12 51 (by decide) (by omega) (by decide)
    refine mod_call (α := α) (αh := αh) (K := K) (e := e α) x2 hp hc21 (by rw [f48]; exact hS) (by rw [f47]; exact x5) (fun k hk j hj => by rw [f51]; exact x7 k hk j hj) (fun M2 h => hmt M2 α H h hi (by omega)) ?_ ?_
    · intro ans' β' he'
      rw [he] at he'
      cases he'
    · intro k' d' he'
      rw [he] at he'
      cases he'
      refine ⟨hk α k d he, fun M2 ⟨c1, c2, c3, c4⟩ => ?_⟩
      rw [hkm, wp_some]
      have g16 : M2 12 16 = M1 12 16 := c4 12 16 (by decide)
      have k16 : ∀ i, i ≠ 8 → i ≠ 9 → i ≠ 10 → M1 12 16 i = M 12 16 i := fun i i1 i2 i3 => by
        by_cases q : k < 20
        · rw [if_pos q] at a2; exact a2.2.2.2 i i1 i2 i3
        · rw [if_neg q] at a2; rw [a2]
      have k47 : ∀ i, i ≠ 0 → i ≠ 16 → i ≠ 17 → i ≠ 18 → M2 12 47 i = M 12 47 i := fun i i0 i1 i2 i3 => by
        by_cases q : k < 20
        · rw [if_pos q] at c3; rw [c3.2.2.2 i i0 i1 i2 i3, f47]
        · rw [if_neg q] at c3; rw [c3 i i0, f47]
      refine ⟨⟨α, αh, αs, K, nx, fed, b, H, ?_, by rw [c1, f48]; exact hS, ?_, ?_, ⟨?_, ?_, ?_, ?_⟩, hi, hih, his, by omega⟩, α, H, hi, Or.inr ⟨k, d, he, rfl, c2⟩⟩
      · rw [show M2 0 = M1 0 from funext fun b => c4 0 b (by omega), a1]; exact hR
      · refine Hs_same hH ?_ ?_ ?_ (fun a q1 q2 q3 => ?_)
        · rw [c4 12 17 (by decide), a3 12 17 (by decide) (by omega) (by decide)]
        · exact k47 6 (by decide) (by decide) (by decide) (by decide)
        · rw [c4 12 51 (by decide), f51]
        · funext b
          rw [c4 a b (by omega), a3 a b (by omega) q3 (by omega)]
      · refine Rs_same hs ?_ ?_ ?_ ?_
        · rw [g16, k16 3 (by decide) (by decide) (by decide)]
        · exact k47 7 (by decide) (by decide) (by decide) (by decide)
        · funext b
          rw [c4 10 b (by omega), a3 10 b (by decide) (by omega) (by omega)]
        · rw [c4 12 50 (by decide), a3 12 50 (by decide) (by omega) (by decide)]
      · by_cases q : k < 20
        · rw [if_pos q] at a2 c3
          have hkk := hk α k d he
          refine ⟨k, 0, by omega, by decide, c3.1, ?_, fun _ => ?_, c3.2.2.1, ?_⟩
          · rw [g16, a2.1, if_neg (by omega)]
          · rw [g16, a2.2.1, c3.2.1]
          · rw [g16, a2.2.2.1, if_pos rfl]
        · rw [if_neg q] at a2 c3
          refine Rr_same hr1 (fun i _ _ => ?_) (fun i i1 i2 => ?_)
          · rw [g16, a2]
          · rw [c3 i (by omega), f47]
      · refine Re_same hr2 ?_ ?_
        · rw [g16, k16 11 (by decide) (by decide) (by decide)]
        · exact k47 14 (by decide) (by decide) (by decide) (by decide)
      · refine Ri_same hr3 ?_ ?_ ?_ ?_
        · rw [c4 12 26 (by decide), a3 12 26 (by decide) (by omega) (by decide)]
        · exact k47 12 (by decide) (by decide) (by decide) (by decide)
        · rw [c4 12 27 (by decide), a3 12 27 (by decide) (by omega) (by decide)]
        · rw [c4 12 53 (by decide), a3 12 53 (by decide) (by omega) (by decide)]
      · refine Ro_same hr4 ?_ ?_ ?_ ?_
        · rw [c4 12 45 (by decide), a3 12 45 (by decide) (by omega) (by decide)]
        · exact k47 13 (by decide) (by decide) (by decide) (by decide)
        · rw [c4 12 46 (by decide), a3 12 46 (by decide) (by omega) (by decide)]
        · rw [c4 12 55 (by decide), a3 12 55 (by decide) (by omega) (by decide)]
