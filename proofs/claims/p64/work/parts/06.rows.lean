/-! further rows: cells by their groups, ends, throws, calls that may throw, copies -/
theorem mok_iff {g i : Nat} : mok g i ↔ (g ≤ 10 ∧ i ≤ 15) ∨ (g = 11 ∧ 6 ≤ i ∧ i ≤ 11) ∨ (g = 12 ∧ 16 ≤ i ∧ i ≤ 46) := by
  simp only [mok, mkeys, List.mem_append, List.mem_flatMap, List.mem_map, List.mem_range, Prod.mk.injEq]
  constructor
  · rintro (⟨a, h1, b, h2, rfl, rfl⟩ | ⟨a, h1, rfl, rfl⟩ | ⟨a, h1, rfl, rfl⟩)
    · left; omega
    · right; left; omega
    · right; right; omega
  · rintro (⟨h1, h2⟩ | ⟨rfl, h1, h2⟩ | ⟨rfl, h1, h2⟩)
    · exact Or.inl ⟨g, by omega, i, by omega, rfl, rfl⟩
    · exact Or.inr (Or.inl ⟨i - 6, by omega, rfl, by omega⟩)
    · exact Or.inr (Or.inr ⟨i - 16, by omega, rfl, by omega⟩)
theorem mokS {g i : Nat} (hg : g ≤ 10) (hi : i ≤ 15) : mok g i := mok_iff.mpr (Or.inl ⟨hg, hi⟩)
theorem mokB {g i : Nat} (hg : g ≤ 11) (h1 : 6 ≤ i) (h2 : i ≤ 11) : mok g i := by
  rw [mok_iff]
  omega
theorem mokX {i : Nat} (h1 : 16 ≤ i) (h2 : i ≤ 46) : mok 12 i := mok_iff.mpr (Or.inr (Or.inr ⟨rfl, h1, h2⟩))
theorem mok_st {j : Nat} (h : j < 9) : 1 + j ≤ 10 := by omega
theorem mok_eq {j : Nat} (h : j < 3) : mok 12 (21 + j) := mokX (by omega) (by omega)
theorem mok_nu {j : Nat} (h : j < 15) : mok 12 (30 + j) := mokX (by omega) (by omega)
theorem mil_eq {j : Nat} (h : j < 3) : mil (21 + j) = some 4 := by
  match j, h with
  | 0, _ => rfl
  | 1, _ => rfl
  | 2, _ => rfl
theorem mil_nu {j : Nat} (h : j < 15) : mil (30 + j) = some 4 := by
  have h9 : ∀ j : Nat, j < 15 → mil (30 + j) = some 4 := by decide
  exact h9 j h
theorem mLt_lt {k : Nat} (h : k < 11) : mtx (mLt.getD k 0) := by
  have h9 : ∀ k : Nat, k < 11 → 13 ≤ mLt.getD k 0 ∧ mLt.getD k 0 < 31 := by decide
  exact h9 k h
theorem mFm_lt {k : Nat} (h : k < 11) : mtx (mFm.getD k 0) := by
  have h9 : ∀ k : Nat, k < 11 → 13 ≤ mFm.getD k 0 ∧ mFm.getD k 0 < 31 := by decide
  exact h9 k h
theorem mn64_e {β : Type} {x : UInt64} {k : Option β} {o : β} (h : mn64 x k = some o) : vf_n64 x ∧ k = some o := by
  unfold mn64 at h
  split at h
  · exact ⟨by assumption, h⟩
  · cases h
theorem mn32_e {β : Type} {x : UInt32} {k : Option β} {o : β} (h : mn32 x k = some o) : vf_n32 x ∧ k = some o := by
  unfold mn32 at h
  split at h
  · exact ⟨by assumption, h⟩
  · cases h
theorem mwd_e {β : Type} {w : WD} {v : Int32} {k : Nat → Option β} {o : β} (h : mwd v k = some o) : ∃ n, va_rf (mwr w v) = .ref (w.2.2.2 0 n) ∧ n < 11 ∧ k n = some o := by
  unfold mwd at h
  split at h
  · cases h
  · rename_i hn
    exact ⟨v.toNatClampNeg, by unfold mwr; rw [if_neg (fun q => hn (Or.inl q))]; rfl, Nat.not_le.mp (fun q => hn (Or.inr q)), h⟩
/-- an outcome's value -/
def mo {α : Type} (f : α → Option Value) : Nat ⊕ α → Nat ⊕ Option Value
  | .inl n => .inl n
  | .inr a => .inr (f a)
abbrev moI : Nat ⊕ Int32 → Nat ⊕ Option Value := mo (fun r => some (.int r))
abbrev moU : Nat ⊕ Unit → Nat ⊕ Option Value := mo (fun _ => none)
abbrev moD : Nat ⊕ UInt64 → Nat ⊕ Option Value := mo (fun r => some (.double r))
abbrev moF : Nat ⊕ UInt32 → Nat ⊕ Option Value := mo (fun r => some (.float r))
section MROWS2
variable {p : Program} {l : Launch} {e : Env} {R : Room} {s : State} {m : MethodId} {args : Array Value} {below : List Frame} {meth : Method} {c : Code} {H : Heap} {locs : List Loc} {cells slots : Nat} {Q : State → Prop}
variable {cc : ByteArray} {pc : Nat} {ls : Array Slot} {rest : List Value} {A : Nat → Prop} {w : WD} {M M1 M9 : Mem} {g i mc ms : Nat}
-- ends
theorem mI.retx (hI : mI w s (mA w s.heap.size) H locs M) {v : Option Value} : ∀ t : State, t.heap = H → s.WarmedH t.vm → mQx w s.heap.size (.inr v) M args s (.returned v) t := fun t ht hW => ⟨⟨v, rfl, rfl⟩, by rw [ht]; exact hI.P, hI.S.F ht⟩
theorem m_iretp (hx : p.tables.exec = Jvm.exec) (hb : c.code = cc) (hr : meth.sig.returnType = some .int) (hlocks : meth.locks = false) (hI : mI w s (mA w s.heap.size) H locs M) {v r : Int32} (hf : some v = some r) (hdg : decode cc pc = .ok (.ireturn, 1)) :
    W p l e R s m args below meth c H locs cells slots (MQ below (mQ w s.heap.size (some (.int r)) M) args s cells slots (mA w s.heap.size)) (F0 m pc ls [.int v]) := by
  cases hf; exact W.iret hx hb hr hI.ret hI.S.2.2 hdg hlocks
theorem m_iretf (hx : p.tables.exec = Jvm.exec) (hb : c.code = cc) (hr : meth.sig.returnType = some .int) (hlocks : meth.locks = false) (hI : mI w s (mA w s.heap.size) H locs M) {v r : Int32} (hf : some (v, M) = some (r, M9)) (hdg : decode cc pc = .ok (.ireturn, 1)) :
    W p l e R s m args below meth c H locs cells slots (MQ below (mQ w s.heap.size (some (.int r)) M9) args s cells slots (mA w s.heap.size)) (F0 m pc ls [.int v]) := by
  cases hf; exact W.iret hx hb hr hI.ret hI.S.2.2 hdg hlocks
theorem m_iretx (hx : p.tables.exec = Jvm.exec) (hb : c.code = cc) (hr : meth.sig.returnType = some .int) (hlocks : meth.locks = false) (hI : mI w s (mA w s.heap.size) H locs M) {v : Int32} {r : Nat ⊕ Int32} (hf : some (Sum.inr v, M) = some (r, M9)) (hdg : decode cc pc = .ok (.ireturn, 1)) (h1 : cells ≤ mc) (h2 : slots ≤ ms) :
    W p l e R s m args below meth c H locs cells slots (vx_MQ below (mQx w s.heap.size (moI r) M9) (mXx w s.heap.size (moI r) M9) args s mc ms (mA w s.heap.size)) (F0 m pc ls [.int v]) := by
  cases hf; exact W.widen h1 h2 (vx_ret (W.iret hx hb hr hI.retx hI.S.2.2 hdg hlocks))
theorem m_iretxp (hx : p.tables.exec = Jvm.exec) (hb : c.code = cc) (hr : meth.sig.returnType = some .int) (hlocks : meth.locks = false) (hI : mI w s (mA w s.heap.size) H locs M) {v : Int32} {r : Nat ⊕ Int32} (hf : some (Sum.inr v) = some r) (hdg : decode cc pc = .ok (.ireturn, 1)) (h1 : cells ≤ mc) (h2 : slots ≤ ms) :
    W p l e R s m args below meth c H locs cells slots (vx_MQ below (mQx w s.heap.size (moI r) M) (mXx w s.heap.size (moI r) M) args s mc ms (mA w s.heap.size)) (F0 m pc ls [.int v]) := by
  cases hf; exact W.widen h1 h2 (vx_ret (W.iret hx hb hr hI.retx hI.S.2.2 hdg hlocks))
theorem m_zretp (hx : p.tables.exec = Jvm.exec) (hb : c.code = cc) {ty : FieldType} (hr : meth.sig.returnType = some ty) (hlocks : meth.locks = false) (hI : mI w s (mA w s.heap.size) H locs M) {v r : Int32} (hn : narrow ty (.int v) = .int v) (hf : some v = some r) (hdg : decode cc pc = .ok (.ireturn, 1)) :
    W p l e R s m args below meth c H locs cells slots (MQ below (mQ w s.heap.size (some (.int r)) M) args s cells slots (mA w s.heap.size)) (F0 m pc ls [.int v]) := by
  cases hf; exact W.zret hx hb hr hn hI.ret hI.S.2.2 hdg hlocks
theorem m_zretf (hx : p.tables.exec = Jvm.exec) (hb : c.code = cc) {ty : FieldType} (hr : meth.sig.returnType = some ty) (hlocks : meth.locks = false) (hI : mI w s (mA w s.heap.size) H locs M) {v r : Int32} (hn : narrow ty (.int v) = .int v) (hf : some (v, M) = some (r, M9)) (hdg : decode cc pc = .ok (.ireturn, 1)) :
    W p l e R s m args below meth c H locs cells slots (MQ below (mQ w s.heap.size (some (.int r)) M9) args s cells slots (mA w s.heap.size)) (F0 m pc ls [.int v]) := by
  cases hf; exact W.zret hx hb hr hn hI.ret hI.S.2.2 hdg hlocks
theorem m_zretx (hx : p.tables.exec = Jvm.exec) (hb : c.code = cc) {ty : FieldType} (hr : meth.sig.returnType = some ty) (hlocks : meth.locks = false) (hI : mI w s (mA w s.heap.size) H locs M) {v : Int32} {r : Nat ⊕ Int32} (hn : narrow ty (.int v) = .int v) (hf : some (Sum.inr v, M) = some (r, M9)) (hdg : decode cc pc = .ok (.ireturn, 1)) (h1 : cells ≤ mc) (h2 : slots ≤ ms) :
    W p l e R s m args below meth c H locs cells slots (vx_MQ below (mQx w s.heap.size (moI r) M9) (mXx w s.heap.size (moI r) M9) args s mc ms (mA w s.heap.size)) (F0 m pc ls [.int v]) := by
  cases hf; exact W.widen h1 h2 (vx_ret (W.zret hx hb hr hn hI.retx hI.S.2.2 hdg hlocks))
theorem m_zretxp (hx : p.tables.exec = Jvm.exec) (hb : c.code = cc) {ty : FieldType} (hr : meth.sig.returnType = some ty) (hlocks : meth.locks = false) (hI : mI w s (mA w s.heap.size) H locs M) {v : Int32} {r : Nat ⊕ Int32} (hn : narrow ty (.int v) = .int v) (hf : some (Sum.inr v) = some r) (hdg : decode cc pc = .ok (.ireturn, 1)) (h1 : cells ≤ mc) (h2 : slots ≤ ms) :
    W p l e R s m args below meth c H locs cells slots (vx_MQ below (mQx w s.heap.size (moI r) M) (mXx w s.heap.size (moI r) M) args s mc ms (mA w s.heap.size)) (F0 m pc ls [.int v]) := by
  cases hf; exact W.widen h1 h2 (vx_ret (W.zret hx hb hr hn hI.retx hI.S.2.2 hdg hlocks))
theorem m_vretp (hx : p.tables.exec = Jvm.exec) (hb : c.code = cc) (hr : meth.sig.returnType = none) (hlocks : meth.locks = false) (hI : mI w s (mA w s.heap.size) H locs M) {r : Unit} (_ : some () = some r) (hdg : decode cc pc = .ok (.return_, 1)) :
    W p l e R s m args below meth c H locs cells slots (MQ below (mQ w s.heap.size none M) args s cells slots (mA w s.heap.size)) (F0 m pc ls []) := W.vret hx hb hr hI.ret hI.S.2.2 hdg hlocks
theorem m_vretf (hx : p.tables.exec = Jvm.exec) (hb : c.code = cc) (hr : meth.sig.returnType = none) (hlocks : meth.locks = false) (hI : mI w s (mA w s.heap.size) H locs M) {r : Unit} (hf : some ((), M) = some (r, M9)) (hdg : decode cc pc = .ok (.return_, 1)) :
    W p l e R s m args below meth c H locs cells slots (MQ below (mQ w s.heap.size none M9) args s cells slots (mA w s.heap.size)) (F0 m pc ls []) := by
  cases hf; exact W.vret hx hb hr hI.ret hI.S.2.2 hdg hlocks
theorem m_vretxp (hx : p.tables.exec = Jvm.exec) (hb : c.code = cc) (hr : meth.sig.returnType = none) (hlocks : meth.locks = false) (hI : mI w s (mA w s.heap.size) H locs M) {r : Nat ⊕ Unit} (hf : some (Sum.inr ()) = some r) (hdg : decode cc pc = .ok (.return_, 1)) (h1 : cells ≤ mc) (h2 : slots ≤ ms) :
    W p l e R s m args below meth c H locs cells slots (vx_MQ below (mQx w s.heap.size (moU r) M) (mXx w s.heap.size (moU r) M) args s mc ms (mA w s.heap.size)) (F0 m pc ls []) := by
  cases hf; exact W.widen h1 h2 (vx_ret (W.vret hx hb hr hI.retx hI.S.2.2 hdg hlocks))
theorem m_dretp (hx : p.tables.exec = Jvm.exec) (hb : c.code = cc) (hr : meth.sig.returnType = some .double) (hlocks : meth.locks = false) (hI : mI w s (mA w s.heap.size) H locs M) {v r : UInt64} (hf : some v = some r) (hdg : decode cc pc = .ok (.dreturn, 1)) :
    W p l e R s m args below meth c H locs cells slots (MQ below (mQ w s.heap.size (some (.double r)) M) args s cells slots (mA w s.heap.size)) (F0 m pc ls [.double v]) := by
  cases hf; exact W.dret hx hb hr hI.ret hI.S.2.2 hdg hlocks
theorem m_dretf (hx : p.tables.exec = Jvm.exec) (hb : c.code = cc) (hr : meth.sig.returnType = some .double) (hlocks : meth.locks = false) (hI : mI w s (mA w s.heap.size) H locs M) {v r : UInt64} (hf : some (v, M) = some (r, M9)) (hdg : decode cc pc = .ok (.dreturn, 1)) :
    W p l e R s m args below meth c H locs cells slots (MQ below (mQ w s.heap.size (some (.double r)) M9) args s cells slots (mA w s.heap.size)) (F0 m pc ls [.double v]) := by
  cases hf; exact W.dret hx hb hr hI.ret hI.S.2.2 hdg hlocks
theorem m_fretf (hx : p.tables.exec = Jvm.exec) (hb : c.code = cc) (hr : meth.sig.returnType = some .float) (hlocks : meth.locks = false) (hI : mI w s (mA w s.heap.size) H locs M) {v r : UInt32} (hf : some (v, M) = some (r, M9)) (hdg : decode cc pc = .ok (.freturn, 1)) :
    W p l e R s m args below meth c H locs cells slots (MQ below (mQ w s.heap.size (some (.float r)) M9) args s cells slots (mA w s.heap.size)) (F0 m pc ls [.float v]) := by
  cases hf; exact W.fret hx hb hr hI.ret hI.S.2.2 hdg hlocks
theorem m_fretxp (hx : p.tables.exec = Jvm.exec) (hb : c.code = cc) (hr : meth.sig.returnType = some .float) (hlocks : meth.locks = false) (hI : mI w s (mA w s.heap.size) H locs M) {v : UInt32} {r : Nat ⊕ UInt32} (hf : some (Sum.inr v) = some r) (hdg : decode cc pc = .ok (.freturn, 1)) (h1 : cells ≤ mc) (h2 : slots ≤ ms) :
    W p l e R s m args below meth c H locs cells slots (vx_MQ below (mQx w s.heap.size (moF r) M) (mXx w s.heap.size (moF r) M) args s mc ms (mA w s.heap.size)) (F0 m pc ls [.float v]) := by
  cases hf; exact W.widen h1 h2 (vx_ret (W.fret hx hb hr hI.retx hI.S.2.2 hdg hlocks))
/-- a State is handed back -/
theorem m_aretp {C : String} (hx : p.tables.exec = Jvm.exec) (hb : c.code = cc) (hr : meth.sig.returnType = some (.object C)) (hlocks : meth.locks = false) (hI : mI w s (mA w s.heap.size) H locs M) {v r : Nat} (hf : some v = some r) (hdg : decode cc pc = .ok (.areturn, 1)) :
    W p l e R s m args below meth c H locs cells slots (MQ below (mQ w s.heap.size (some (.ref (w.1 r 0))) M) args s cells slots (mA w s.heap.size)) (F0 m pc ls [.ref (w.1 v 0)]) := by
  cases hf; exact W.aret hx hb hr (Or.inl ⟨_, rfl⟩) (Or.inr ⟨_, rfl⟩) hI.ret hI.S.2.2 hdg hlocks
theorem m_aretf {C : String} (hx : p.tables.exec = Jvm.exec) (hb : c.code = cc) (hr : meth.sig.returnType = some (.object C)) (hlocks : meth.locks = false) (hI : mI w s (mA w s.heap.size) H locs M) {v r : Nat} (hf : some (v, M) = some (r, M9)) (hdg : decode cc pc = .ok (.areturn, 1)) :
    W p l e R s m args below meth c H locs cells slots (MQ below (mQ w s.heap.size (some (.ref (w.1 r 0))) M9) args s cells slots (mA w s.heap.size)) (F0 m pc ls [.ref (w.1 v 0)]) := by
  cases hf; exact W.aret hx hb hr (Or.inl ⟨_, rfl⟩) (Or.inr ⟨_, rfl⟩) hI.ret hI.S.2.2 hdg hlocks
/-- a constant of Word, or null -/
theorem m_eretf {C : String} (hx : p.tables.exec = Jvm.exec) (hb : c.code = cc) (hr : meth.sig.returnType = some (.object C)) (hlocks : meth.locks = false) (hI : mI w s (mA w s.heap.size) H locs M) {u : Value} {v r : Option Nat} (hf : some (v, M) = some (r, M9)) (hu : (v = none ∧ u = .null) ∨ ∃ k, v = some k ∧ u = .ref (w.2.2.2 0 k)) (hdg : decode cc pc = .ok (.areturn, 1)) :
    W p l e R s m args below meth c H locs cells slots (MQ below (mQ w s.heap.size (some (va_rf (r.map (w.2.2.2 0)))) M9) args s cells slots (mA w s.heap.size)) (F0 m pc ls [u]) := by
  cases hf
  rcases hu with ⟨rfl, rfl⟩ | ⟨k, rfl, rfl⟩
  · exact W.aret hx hb hr (Or.inl ⟨_, rfl⟩) (Or.inl rfl) hI.ret hI.S.2.2 hdg hlocks
  · exact W.aret hx hb hr (Or.inl ⟨_, rfl⟩) (Or.inr ⟨_, rfl⟩) hI.ret hI.S.2.2 hdg hlocks
-- calls that may throw
theorem m_afterR {st0 : List Value} {a : Array Value} {o : Nat ⊕ Option Value} {v : Option Value} (hr : vx_Run p l e R s m args below meth c H locs cells slots mc ms (F0 m pc ls st0) rest (mQx w H.size o M1 a) (mXx w H.size o M1) (mA w H.size)) (ho : o = .inr v) (hI : mI w s A H locs M)
    (kk : ∀ (H1 : Heap) (locs1 : List Loc), mI w s A H1 locs1 M1 → W p l e R s m args below meth c H1 locs1 (cells + mc) (slots + ms) Q (F0 m (pc + 3) ls (v.toList ++ rest))) : W p l e R s m args below meth c H locs cells slots Q (F0 m pc ls st0) := by
  intro T hT X
  have hS := hI.S
  rcases hr T hT X with ⟨v1, st₀, t, T', L, h0, X', hL, e1, e2, ⟨⟨v2, hv2, hv⟩, hP1, hz, hk⟩, st⟩ | ⟨q, st₀, t, T', L, E, ce, h0, X', hL, e1, e2, ⟨⟨n, hn, -⟩, -⟩, -⟩
  · cases hv
    cases ho.symm.trans hv2
    rw [h0] at hz hk
    obtain ⟨t2, a1, b1⟩ := kk T'.heap (locs ++ L) (hI.next (by rw [e1]; exact hP1) ⟨Nat.le_trans hS.1 (by rw [e1]; exact hz), fun q h1 h2 => by rw [e1, hk q (Nat.lt_of_lt_of_le h1 hS.1) (fun z => h2 (hI.sub q z))]; exact hS.2.1 q h1 h2, fun q hq => by
        rcases List.mem_append.mp hq with h | h
        · exact hS.2.2 q h
        · exact hI.sub _ (hL q h)⟩) T' rfl X'
    exact ⟨t2, st t2 a1, b1⟩
  · cases ho.symm.trans hn
theorem m_afterX {st0 : List Value} {a : Array Value} {o : Nat ⊕ Option Value} {n : Nat} (hr : vx_Run p l e R s m args below meth c H locs cells slots mc ms (F0 m pc ls st0) rest (mQx w H.size o M1 a) (mXx w H.size o M1) (mA w H.size)) (ho : o = .inl n) (hI : mI w s A H locs M)
    (kk : ∀ (ce : Cell) (q : Addr) (H1 : Heap) (locs1 : List Loc), mI w s A H1 locs1 M1 → H1[q]? = some ce → ce.vm = .none → s.vm.findClass (mXn n) = some ce.cls → vx_W p l e R s m args below meth c H1 locs1 (cells + mc) (slots + ms) Q (F0 m pc ls rest) q) : W p l e R s m args below meth c H locs cells slots Q (F0 m pc ls st0) := by
  intro T hT X
  have hS := hI.S
  rcases hr T hT X with ⟨v1, st₀, t, T', L, h0, X', hL, e1, e2, ⟨⟨v2, hv2, hv⟩, hP1, hz, hk⟩, st⟩ | ⟨q, st₀, t, T', L, E, ce, h0, X', hL, e1, e2, ⟨⟨n1, hn, rfl⟩, hP1, hz, hk⟩, hce, hcv, hcl, st⟩
  · cases ho.symm.trans hv2
  · cases ho.symm.trans hn
    rw [h0] at hz hk
    obtain ⟨t2, a1, b1⟩ := kk ce q T'.heap (locs ++ L) (hI.next (by rw [e1]; exact hP1) ⟨Nat.le_trans hS.1 (by rw [e1]; exact hz), fun q h1 h2 => by rw [e1, hk q (Nat.lt_of_lt_of_le h1 hS.1) (fun z => h2 (hI.sub q z))]; exact hS.2.1 q h1 h2, fun q hq => by
        rcases List.mem_append.mp hq with h | h
        · exact hS.2.2 q h
        · exact hI.sub _ (hL q h)⟩) (by rw [e1]; exact hce) hcv hcl T' rfl X'
    exact ⟨t2, st.trans a1, b1⟩
variable {y : MethodName} {bytes : ByteArray} {maxL nL n idx n9 : Nat} {ret : Option FieldType} {rm : Room} {own C : String} {b : Nat} {As : List Value} {α γ : Type} {f : α → Option Value} {h : γ → Option Value} {mc9 ms9 : Nat}
theorem m_callxRV {v : α} (hx : p.tables.exec = Jvm.exec) (hb : c.code = cc) (hml : c.maxLocals = nL) (hown : s.vm.findClass own = some m.cls) (hI : mI w s A H locs M)
    (hM : mMetx l y bytes maxL ret rm w H.size M (.ref b :: As) (mo f (.inr v)) M1 mc ms) (hcb : CallB R s args own idx y bytes maxL ret [Cond.code y bytes maxL ret] rm mc ms n) (hin : (Cond.instanceMethod y).before args s = true) (hse : (Cond.selects C y y).before args s = true)
    (hrc : ∃ cell : Cell, H[b]? = some cell ∧ cell.vm.isStatics = false ∧ s.vm.findClass C = some cell.cls) (hn : As.length = n) (hsize : ls.size = nL) (hW : (rest.map fun v => v.category).sum ≤ 8) (hdg : decode cc pc = .ok (.invokevirtual idx, 3)) (hf : cells + mc ≤ R.cells ∧ slots + ms ≤ R.slots)
    (kk : ∀ (H1 : Heap) (locs1 : List Loc), mI w s A H1 locs1 M1 → W p l e R s m args below meth c H1 locs1 (cells + mc) (slots + ms) Q (F0 m (pc + 3) ls ((f v).toList ++ rest))) : W p l e R s m args below meth c H locs cells slots Q (F0 m pc ls (As.reverse ++ .ref b :: rest)) :=
  m_afterR (vx_runV (g := F0 m pc ls (As.reverse ++ .ref b :: rest)) (Ts := []) (As := As) (rest := rest) ⟨hx, hb, hml, hown, fun _ h => nomatch h⟩ hM ⟨hcb, hin, hse⟩ ⟨mPre.blind, hrc, fun U hU hW => ⟨rfl, by rw [hU], hI.pre hU hW⟩⟩ rfl hn hsize rfl (lv_room hW) hdg ⟨hf.1, hf.2⟩) rfl hI kk
theorem m_callxTV {r : Nat ⊕ γ} (hx : p.tables.exec = Jvm.exec) (hb : c.code = cc) (hml : c.maxLocals = nL) (hown : s.vm.findClass own = some m.cls) (hI : mI w s (mA w s.heap.size) H locs M)
    (hM : mMetx l y bytes maxL ret rm w H.size M (.ref b :: As) (mo f (.inl n9)) M1 mc ms) (hcb : CallB R s args own idx y bytes maxL ret [Cond.code y bytes maxL ret] rm mc ms n) (hin : (Cond.instanceMethod y).before args s = true) (hse : (Cond.selects C y y).before args s = true)
    (hrc : ∃ cell : Cell, H[b]? = some cell ∧ cell.vm.isStatics = false ∧ s.vm.findClass C = some cell.cls) (hn : As.length = n) (hsize : ls.size = nL) (hW : (rest.map fun v => v.category).sum ≤ 8) (hdg : decode cc pc = .ok (.invokevirtual idx, 3)) (hf : cells + mc ≤ R.cells ∧ slots + ms ≤ R.slots)
    (hxt : ∀ x ∈ c.exceptionTable.toList, False) (hlk : meth.locks = false) (hr : some (Sum.inl n9, M1) = some (r, M9)) (h1 : cells + mc ≤ mc9) (h2 : slots + ms ≤ ms9) : W p l e R s m args below meth c H locs cells slots (vx_MQ below (mQx w s.heap.size (mo h r) M9) (mXx w s.heap.size (mo h r) M9) args s mc9 ms9 (mA w s.heap.size)) (F0 m pc ls (As.reverse ++ .ref b :: rest)) := by
  cases hr
  exact m_afterX (vx_runV (g := F0 m pc ls (As.reverse ++ .ref b :: rest)) (Ts := []) (As := As) (rest := rest) ⟨hx, hb, hml, hown, fun _ h => nomatch h⟩ hM ⟨hcb, hin, hse⟩ ⟨mPre.blind, hrc, fun U hU hW => ⟨rfl, by rw [hU], hI.pre hU hW⟩⟩ rfl hn hsize rfl (lv_room hW) hdg ⟨hf.1, hf.2⟩) rfl hI
    (fun ce q H1 locs1 hI1 hc1 hc2 hc3 => vx_out (fun x hx => (hxt x hx).elim) hlk hc1 hc2 hc3 (fun t ht _ => ⟨⟨n9, rfl, rfl⟩, by rw [ht]; exact hI1.P, hI1.S.F ht⟩) hI1.S.2.2 h1 h2)
theorem m_callxTVp {r : Nat ⊕ γ} (hx : p.tables.exec = Jvm.exec) (hb : c.code = cc) (hml : c.maxLocals = nL) (hown : s.vm.findClass own = some m.cls) (hI : mI w s (mA w s.heap.size) H locs M)
    (hM : mMetx l y bytes maxL ret rm w H.size M (.ref b :: As) (mo f (.inl n9)) M mc ms) (hcb : CallB R s args own idx y bytes maxL ret [Cond.code y bytes maxL ret] rm mc ms n) (hin : (Cond.instanceMethod y).before args s = true) (hse : (Cond.selects C y y).before args s = true)
    (hrc : ∃ cell : Cell, H[b]? = some cell ∧ cell.vm.isStatics = false ∧ s.vm.findClass C = some cell.cls) (hn : As.length = n) (hsize : ls.size = nL) (hW : (rest.map fun v => v.category).sum ≤ 8) (hdg : decode cc pc = .ok (.invokevirtual idx, 3)) (hf : cells + mc ≤ R.cells ∧ slots + ms ≤ R.slots)
    (hxt : ∀ x ∈ c.exceptionTable.toList, False) (hlk : meth.locks = false) (hr : some (Sum.inl n9) = some r) (h1 : cells + mc ≤ mc9) (h2 : slots + ms ≤ ms9) : W p l e R s m args below meth c H locs cells slots (vx_MQ below (mQx w s.heap.size (mo h r) M) (mXx w s.heap.size (mo h r) M) args s mc9 ms9 (mA w s.heap.size)) (F0 m pc ls (As.reverse ++ .ref b :: rest)) :=
  m_callxTV hx hb hml hown hI hM hcb hin hse hrc hn hsize hW hdg hf hxt hlk (by cases hr; rfl) h1 h2
-- throws
theorem m_throw {n ix ik is ic : Nat} {text : String} {names : List String} {r : Nat ⊕ γ} (hx : p.tables.exec = Jvm.exec) (hb : c.code = cc) (hsf : l.stackTraces = false) (hown : s.vm.findClass "ShareVault" = some m.cls) (hI : mI w s (mA w s.heap.size) H locs M) (hms : mCx[ix]? = some (is, text))
    (hk : (Cond.classLink "ShareVault" ik (mXn n)).before args s = true) (hini : (Cond.initialized (mXn n)).before args s = true) (hat : Bundle.fit (mXn n) = true ∧ (∀ n ∈ names, Bundle.fit n = true) ∧ (∀ w ∈ vx_atS "ShareVault" ic (mXn n) names, w.before args s = true) ∧ ∀ w ∈ Cond.classLink "ShareVault" ik (mXn n) :: Cond.initialized (mXn n) :: vx_atS "ShareVault" ic (mXn n) names, vx_ot w = true)
    (hsize : ls.size = nL) (hml : c.maxLocals = nL) (d0 : decode cc pc = .ok (.new ik, 3)) (d3 : decode cc (pc + 3) = .ok (.dup, 1)) (d4 : decode cc (pc + 4) = .ok (.ldc is, 2)) (d6 : decode cc (pc + 6) = .ok (.invokespecial ic, 3)) (d9 : decode cc (pc + 9) = .ok (.athrow, 1))
    (hxt : ∀ x ∈ c.exceptionTable.toList, False) (hRf : names.length + 3 < R.frames) (hRl : (rest.map fun v => v.category).sum + (13 * (names.length + 1) + 43) ≤ R.locals) (hRc : cells + 1 ≤ R.cells) (hRs : slots + 6 ≤ R.slots) (hlk : meth.locks = false) (hr : some (Sum.inl n, M) = some (r, M9)) (hc : cells + 1 ≤ mc) (hs : slots + 6 ≤ ms) :
    W p l e R s m args below meth c H locs cells slots (vx_MQ below (mQx w s.heap.size (mo h r) M9) (mXx w s.heap.size (mo h r) M9) args s mc ms (mA w s.heap.size)) (F0 m pc ls rest) := by
  cases hr
  obtain ⟨sa, hstr⟩ := hI.msg hms
  exact vx_throwS hx hb hsf hown hat.1 hat.2.1 hk hini hstr hat.2.2.1 hat.2.2.2 hI.St.1.1 hI.St.1.2 hI.S (hsize.trans hml.symm) d0 d3 d4 d6 d9 (fun x hx => (hxt x hx).elim) hRf hRl hRc hRs hlk
    (fun t hv hz hq => ⟨⟨n, rfl, rfl⟩, hI.P.kept (fun k q hk => hq q.1 (hI.P k q hk).lt), ⟨Nat.le_trans hI.S.1 hz, fun q h1 h2 => (hq q (Nat.lt_of_lt_of_le h1 hI.S.1)).trans (hI.S.2.1 q h1 h2)⟩⟩) hI.S.2.2 hc hs
theorem m_throwW {n ix ik is ic : Nat} {text : String} {names : List String} {r : Nat ⊕ γ} (hx : p.tables.exec = Jvm.exec) (hb : c.code = cc) (hsf : l.stackTraces = false) (hown : s.vm.findClass "ShareVault" = some m.cls) (hI : mI w s (mA w s.heap.size) H locs M) (hms : mCx[ix]? = some (is, text))
    (hk : (Cond.classLink "ShareVault" ik (mXn n)).before args s = true) (hini : (Cond.initialized (mXn n)).before args s = true) (hat : Bundle.fit (mXn n) = true ∧ (∀ n ∈ names, Bundle.fit n = true) ∧ (∀ w ∈ vx_atS "ShareVault" ic (mXn n) names, w.before args s = true) ∧ ∀ w ∈ Cond.classLink "ShareVault" ik (mXn n) :: Cond.initialized (mXn n) :: vx_atS "ShareVault" ic (mXn n) names, vx_ot w = true)
    (hsize : ls.size = nL) (hml : c.maxLocals = nL) (d0 : decode cc pc = .ok (.new ik, 3)) (d3 : decode cc (pc + 3) = .ok (.dup, 1)) (d4 : decode cc (pc + 4) = .ok (.ldc_w is, 3)) (d7 : decode cc (pc + 7) = .ok (.invokespecial ic, 3)) (d10 : decode cc (pc + 10) = .ok (.athrow, 1))
    (hxt : ∀ x ∈ c.exceptionTable.toList, False) (hRf : names.length + 3 < R.frames) (hRl : (rest.map fun v => v.category).sum + (13 * (names.length + 1) + 43) ≤ R.locals) (hRc : cells + 1 ≤ R.cells) (hRs : slots + 6 ≤ R.slots) (hlk : meth.locks = false) (hr : some (Sum.inl n, M) = some (r, M9)) (hc : cells + 1 ≤ mc) (hs : slots + 6 ≤ ms) :
    W p l e R s m args below meth c H locs cells slots (vx_MQ below (mQx w s.heap.size (mo h r) M9) (mXx w s.heap.size (mo h r) M9) args s mc ms (mA w s.heap.size)) (F0 m pc ls rest) := by
  cases hr
  obtain ⟨sa, hstr⟩ := hI.msg hms
  exact vx_throwSW hx hb hsf hown hat.1 hat.2.1 hk hini hstr hat.2.2.1 hat.2.2.2 hI.St.1.1 hI.St.1.2 hI.S (hsize.trans hml.symm) d0 d3 d4 d7 d10 (fun x hx => (hxt x hx).elim) hRf hRl hRc hRs hlk
    (fun t hv hz hq => ⟨⟨n, rfl, rfl⟩, hI.P.kept (fun k q hk => hq q.1 (hI.P k q hk).lt), ⟨Nat.le_trans hI.S.1 hz, fun q h1 h2 => (hq q (Nat.lt_of_lt_of_le h1 hI.S.1)).trans (hI.S.2.1 q h1 h2)⟩⟩) hI.S.2.2 hc hs
-- copies
theorem m_copy {t0 : Nat} {ty : FieldType} {cA : ClassId} {g0 i0 n0 g1 i1 n1 idx : Nat} {own : String} {sp dp n : Int32} (hx : p.tables.exec = Jvm.exec) (hb : c.code = cc) (hml : c.maxLocals = ls.size) (hI : mI w s A H locs M) (hown : s.vm.findClass own = some m.cls) (hlink : (Cond.methodLink own idx arraycopyName).before args s = true) (hnat : (Cond.native arraycopyName).before args s = true) (hstat : (Cond.static arraycopyName).before args s = true) (hini : (Cond.initialized "java/lang/System").before args s = true)
    (hok0 : mok g0 i0) (he0 : ∀ f, menc w g0 i0 f = .inl (cA, n0, .inl f)) (hok1 : mok g1 i1) (he1 : ∀ f, menc w g1 i1 f = .inl (cA, n1, .inl f)) (ht : (mTys w)[t0]? = some (cA, ty)) (hprim : refKind ty = false) (hcp : mcpok ty M g0 i0 n0 sp n1 dp n) (hM : M1 = mcp M g0 i0 g1 i1 sp.toNatClampNeg dp.toNatClampNeg n.toNatClampNeg)
    (hframes : 1 ≤ R.frames) (hlocals : (rest.map fun v => v.category).sum + (nativeFrameWords "java/lang/System" "arraycopy" 5 + 11) ≤ R.locals) (hdg : decode cc pc = .ok (.invokestatic idx, 3))
    (kk : ∀ (H1 : Heap) (locs1 : List Loc), mI w s A H1 locs1 M1 → W p l e R s m args below meth c H1 locs1 cells slots Q (F0 m (pc + 3) ls rest)) : W p l e R s m args below meth c H locs cells slots Q (F0 m pc ls (.int n :: .int dp :: .ref (w.1 g1 i1) :: .int sp :: .ref (w.1 g0 i0) :: rest)) := by
  subst hM
  obtain ⟨q0, hq0⟩ := mok_get hok0
  obtain ⟨q1, hq1⟩ := mok_get hok1
  obtain ⟨h1, h2, h3, h4, h5, h6⟩ := hcp
  refine va_copyi hx hb hml hown hlink hnat hstat hini hI.K hI.P hI.D hI.S q0 q1 t0 t0 ((mkeys_get hq0).trans (congrArg (fun z => some (w.1 g0 i0, z)) (he0 _))) ((mkeys_get hq1).trans (congrArg (fun z => some (w.1 g1 i1, z)) (he1 _))) ht ht hprim h1 h2 h3 h4 h5 h6 hframes hlocals hdg (fun H1 locs1 hP1 hD1 hS1 => ?_)
  have e1 := mW_set (w := w) (M := M) (M1 := mcp M g0 i0 g1 i1 sp.toNatClampNeg dp.toNatClampNeg n.toNatClampNeg) (e := .inl (cA, n1, .inl (va_cpy (M g0 i0) (M g1 i1) sp.toNatClampNeg dp.toNatClampNeg n.toNatClampNeg))) hq1 (by rw [he1]; simp [mcp]) (fun a b h => by simp only [mcp]; rw [if_neg h])
  rw [e1] at hP1
  exact kk H1 locs1 (hI.next hP1 hS1)
end MROWS2
