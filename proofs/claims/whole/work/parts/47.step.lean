theorem ds_nan {v : UInt32} (h : v &&& 2147483647 ≤ 2139095040) : vf_n64 (FP.f2d v) ∧ FP.dcmp (FP.f2d v) (FP.f2d v) = some .eq := by
  have h1 : Jvm.Free.Fl.NoNaN64 (FP.f2d v) := (Jvm.Free.Fl.noNaN_f2d v).mpr h
  exact ⟨h1, Jvm.FP.Core.dcmp_refl (Jvm.Free.Fl.noNaN64_no.mp h1)⟩
theorem ds_share {a1 : Int32} {M : Mem} {v : UInt32} (h : f_X11_alarmShare a1 M = some (.inr v)) : v &&& 2147483647 ≤ 2139095040 := by
  unfold f_X11_alarmShare at h
  rcases mbpx_e h with ⟨n, -, h⟩ | ⟨a, -, h⟩
  · cases h
  · by_cases h6 : M 0 6 3 = 0
    · rw [if_pos h6] at h; cases h
    · rw [if_neg h6] at h
      obtain ⟨-, h⟩ := mix_e h
      unfold mn32 at h
      split at h
      · rename_i hh
        cases h
        exact hh
      · cases h
/-- a call that changes nothing-/
theorem Rel_next {n : Nat} {M : Mem} (h : Rel n M) : Rel (n + 1) M := by
  obtain ⟨α, αh, αs, K, nx, fed, b, H, a1, a2, a3, a4, a5, a6, a7, a8, a9⟩ := h
  exact ⟨α, αh, αs, K, nx, fed, b, H, a1, a2, a3, a4, a5, a6, a7, a8, by omega⟩
theorem nI_pos3 {k : Nat} (h1 : 1 ≤ k) (h2 : k ≤ 3) : ¬ nI k = (0 : Int32) := by
  have h9 : ∀ k : Nat, k < 4 → 1 ≤ k → ¬ nI k = (0 : Int32) := by decide
  exact h9 k (by omega) h1
/-- what the class's side answers and the model's, in the law's own terms -/
theorem ag_res {cat : Nat → Nat} {es : List (Nat × Int32)} {f : Int32 → Int64} {x : Int64} {o : Nat ⊕ Int32} {r th : Int32} (h : Ag cat o r th) (hes : ∀ z : Nat, 1 ≤ cat z → (z, nI (cat z)) ∈ es) : ∃ x1, hRes es f x o th x1 ∧ (th = 0 → x1 = f r) := by
  rcases o with z | v
  · obtain ⟨h0, h1, h2⟩ : th = nI (cat z) ∧ 1 ≤ cat z ∧ cat z ≤ 3 := h
    subst h0
    exact ⟨x, ⟨rfl, hes z h1⟩, fun q => absurd q (nI_pos3 h1 h2)⟩
  · obtain ⟨h0, h1⟩ : th = nI 0 ∧ v = r := h
    subst h0; subst h1
    exact ⟨f v, ⟨rfl, rfl⟩, fun _ => rfl⟩
theorem ag_resF {cat : Nat → Nat} {es : List (Nat × Int32)} {y : UInt64} {o : Nat ⊕ UInt32} {r : UInt32} {th : Int32} (h : AgF cat o r th) (hes : ∀ z : Nat, 1 ≤ cat z → (z, nI (cat z)) ∈ es) (hn : ∀ v, o = .inr v → vf_n64 (FP.f2d v) ∧ FP.dcmp (FP.f2d v) (FP.f2d v) = some .eq) : ∃ y1, dRes es y o th y1 ∧ (th = 0 → y1 = FP.f2d r ∧ vf_n64 (FP.f2d r) ∧ FP.dcmp (FP.f2d r) (FP.f2d r) = some .eq) := by
  rcases o with z | v
  · obtain ⟨h0, h1, h2⟩ : th = nI (cat z) ∧ 1 ≤ cat z ∧ cat z ≤ 3 := h
    subst h0
    exact ⟨y, ⟨rfl, hes z h1⟩, fun q => absurd q (nI_pos3 h1 h2)⟩
  · obtain ⟨h0, h1⟩ : th = nI 0 ∧ v = r := h
    subst h0; subst h1
    exact ⟨FP.f2d v, ⟨rfl, rfl, (hn v rfl).1⟩, fun _ => ⟨rfl, hn v rfl⟩⟩
theorem l_b2 (v : Int32) : ∃ b, b < 2 ∧ (if v = 0 then (0 : Int32) else 1) = nI b := by
  by_cases h : v = 0
  · exact ⟨0, by decide, by rw [if_pos h]; rfl⟩
  · exact ⟨1, by decide, by rw [if_neg h]; rfl⟩
theorem l_b16 (v : Int32) : ∃ a, a < 65536 ∧ lI2C v = nI a := by
  refine ⟨(v.toUInt32 % 65536).toNat, ?_, ?_⟩
  · rw [UInt32.toNat_mod]
    exact Nat.mod_lt _ (by decide)
  · unfold lI2C nI
    apply Int32.toBitVec_inj.mp
    apply BitVec.eq_of_toNat_eq
    simp
    have e9 : v.toUInt32.toNat = v.toBitVec.toNat := rfl
    rw [e9]
    omega
theorem s_c0 {n : Nat} {p : Program} {l : Launch} {e : Env} {R : Room} {s : State} {m : MethodId} {args : Array Value} {below : List Frame} {meth : Method} {c : Code} {H : Heap} {locs : List Loc} {cells slots : Nat} {Q : State → Prop} {ls : Array Slot} {w : WD} {oL oD b L i0 : Nat} {xs : Nat → Int32} {cL cD : ClassId} {x : Int64} {y : UInt64} (hsf : l.stackTraces = false) (hx : p.tables.exec = Jvm.exec) (hb : c.code = cL_law) (hml : c.maxLocals = 10) (hown : s.vm.findClass "ShareVaultLaw" = some m.cls) (hR : 13 ≤ R.frames ∧ 400 ≤ R.locals ∧ cells + 2 ≤ R.cells ∧ slots + 12 ≤ R.slots) (hi : i0 + 4 < L) (hLL : L ≤ 2560) (hl : lv_has ls 10 (lLoc w b oL oD i0)) {M : Mem} (hr : Rel n M) (hn : n < 512) (hI : lI w s H locs oL oD cL cD x y b L xs M) (kk : ∀ (H1 : Heap) (locs1 : List Loc) (ls1 : Array Slot) (x1 : Int64) (y1 : UInt64) (M2 : Mem), Rel (n + 1) M2 → lv_has ls1 10 (lLoc w b oL oD i0) → lI w s H1 locs1 oL oD cL cD x1 y1 b L xs M2 → W p l e R s m args below meth c H1 locs1 (cells + 2) (slots + 12) Q (F0 m 2998 ls1 [])) : W p l e R s m args below meth c H locs cells slots Q (F0 m 304 ls []) := by
  obtain ⟨o, M1, h1, r, M2, h2, hr2, hag⟩ := pair_addHolder hr hn
  have hes : ∀ z : Nat, 1 ≤ (fun x => if x = 3 then 1 else 0) z → (z, nI ((fun x => if x = 3 then 1 else 0) z)) ∈ ([(3, 1)] : List (Nat × Int32)) := by
    intro z hz
    by_cases z3 : z = 3
    · subst z3; decide
    exact absurd hz (by simp [z3])
  obtain ⟨x1, hres, ha⟩ := ag_res (f := (fun v => v.toInt64)) (x := x) hag hes
  exact l_c0 hsf hx hb hml hown hR hi hLL hl hI h1 hres h2 rfl ha (fun H1 locs1 ls1 hl1 hI1 => W.widen (by omega) (by omega) (kk H1 locs1 ls1 x1 y M2 hr2 hl1 hI1))
theorem s_c1 {n : Nat} {p : Program} {l : Launch} {e : Env} {R : Room} {s : State} {m : MethodId} {args : Array Value} {below : List Frame} {meth : Method} {c : Code} {H : Heap} {locs : List Loc} {cells slots : Nat} {Q : State → Prop} {ls : Array Slot} {w : WD} {oL oD b L i0 : Nat} {xs : Nat → Int32} {cL cD : ClassId} {x : Int64} {y : UInt64} (hsf : l.stackTraces = false) (hx : p.tables.exec = Jvm.exec) (hb : c.code = cL_law) (hml : c.maxLocals = 10) (hown : s.vm.findClass "ShareVaultLaw" = some m.cls) (hR : 13 ≤ R.frames ∧ 400 ≤ R.locals ∧ cells + 2 ≤ R.cells ∧ slots + 12 ≤ R.slots) (hi : i0 + 4 < L) (hLL : L ≤ 2560) (hl : lv_has ls 10 (lLoc w b oL oD i0)) {M : Mem} (hr : Rel n M) (hn : n < 512) (hI : lI w s H locs oL oD cL cD x y b L xs M) (kk : ∀ (H1 : Heap) (locs1 : List Loc) (ls1 : Array Slot) (x1 : Int64) (y1 : UInt64) (M2 : Mem), Rel (n + 1) M2 → lv_has ls1 10 (lLoc w b oL oD i0) → lI w s H1 locs1 oL oD cL cD x1 y1 b L xs M2 → W p l e R s m args below meth c H1 locs1 (cells + 2) (slots + 12) Q (F0 m 2998 ls1 [])) : W p l e R s m args below meth c H locs cells slots Q (F0 m 348 ls []) := by
  obtain ⟨o, M1, h1, r, M2, h2, hr2, hag⟩ := pair_seal hr hn (xs (i0 + 1)) (xs (i0 + 2)) (xs (i0 + 3)) (xs (i0 + 4))
  have hes : ∀ z : Nat, 1 ≤ (fun x => if x = 2 then 1 else if x = 3 then 2 else 0) z → (z, nI ((fun x => if x = 2 then 1 else if x = 3 then 2 else 0) z)) ∈ ([(2, 1), (3, 2)] : List (Nat × Int32)) := by
    intro z hz
    by_cases z2 : z = 2
    · subst z2; decide
    by_cases z3 : z = 3
    · subst z3; decide
    exact absurd hz (by simp [z2, z3])
  obtain ⟨x1, hres, ha⟩ := ag_res (f := (fun v => v.toInt64)) (x := x) hag hes
  exact l_c1 hsf hx hb hml hown hR hi hLL hl hI h1 hres h2 rfl ha (fun H1 locs1 ls1 hl1 hI1 => W.widen (by omega) (by omega) (kk H1 locs1 ls1 x1 y M2 hr2 hl1 hI1))
theorem s_c2 {n : Nat} {p : Program} {l : Launch} {e : Env} {R : Room} {s : State} {m : MethodId} {args : Array Value} {below : List Frame} {meth : Method} {c : Code} {H : Heap} {locs : List Loc} {cells slots : Nat} {Q : State → Prop} {ls : Array Slot} {w : WD} {oL oD b L i0 : Nat} {xs : Nat → Int32} {cL cD : ClassId} {x : Int64} {y : UInt64} (hsf : l.stackTraces = false) (hx : p.tables.exec = Jvm.exec) (hb : c.code = cL_law) (hml : c.maxLocals = 10) (hown : s.vm.findClass "ShareVaultLaw" = some m.cls) (hR : 13 ≤ R.frames ∧ 400 ≤ R.locals ∧ cells + 2 ≤ R.cells ∧ slots + 12 ≤ R.slots) (hi : i0 + 4 < L) (hLL : L ≤ 2560) (hl : lv_has ls 10 (lLoc w b oL oD i0)) {M : Mem} (hr : Rel n M) (hn : n < 512) (hI : lI w s H locs oL oD cL cD x y b L xs M) (kk : ∀ (H1 : Heap) (locs1 : List Loc) (ls1 : Array Slot) (x1 : Int64) (y1 : UInt64) (M2 : Mem), Rel (n + 1) M2 → lv_has ls1 10 (lLoc w b oL oD i0) → lI w s H1 locs1 oL oD cL cD x1 y1 b L xs M2 → W p l e R s m args below meth c H1 locs1 (cells + 2) (slots + 12) Q (F0 m 2998 ls1 [])) : W p l e R s m args below meth c H locs cells slots Q (F0 m 440 ls []) := by
  obtain ⟨o, M1, h1, r, M2, h2, hr2, hag⟩ := pair_setShare hr hn (xs (i0 + 1)) (xs (i0 + 2))
  have hes : ∀ z : Nat, 1 ≤ (fun x => if x = 1 then 1 else if x = 2 then 2 else if x = 3 then 3 else 0) z → (z, nI ((fun x => if x = 1 then 1 else if x = 2 then 2 else if x = 3 then 3 else 0) z)) ∈ ([(1, 1), (2, 2), (3, 3)] : List (Nat × Int32)) := by
    intro z hz
    by_cases z1 : z = 1
    · subst z1; decide
    by_cases z2 : z = 2
    · subst z2; decide
    by_cases z3 : z = 3
    · subst z3; decide
    exact absurd hz (by simp [z1, z2, z3])
  obtain ⟨x1, hres, ha⟩ := ag_res (f := (fun v => v.toInt64)) (x := x) hag hes
  exact l_c2 hsf hx hb hml hown hR hi hLL hl hI h1 hres h2 rfl ha (fun H1 locs1 ls1 hl1 hI1 => W.widen (by omega) (by omega) (kk H1 locs1 ls1 x1 y M2 hr2 hl1 hI1))
theorem s_c3 {n : Nat} {p : Program} {l : Launch} {e : Env} {R : Room} {s : State} {m : MethodId} {args : Array Value} {below : List Frame} {meth : Method} {c : Code} {H : Heap} {locs : List Loc} {cells slots : Nat} {Q : State → Prop} {ls : Array Slot} {w : WD} {oL oD b L i0 : Nat} {xs : Nat → Int32} {cL cD : ClassId} {x : Int64} {y : UInt64} (hsf : l.stackTraces = false) (hx : p.tables.exec = Jvm.exec) (hb : c.code = cL_law) (hml : c.maxLocals = 10) (hown : s.vm.findClass "ShareVaultLaw" = some m.cls) (hR : 13 ≤ R.frames ∧ 400 ≤ R.locals ∧ cells + 2 ≤ R.cells ∧ slots + 12 ≤ R.slots) (hi : i0 + 4 < L) (hLL : L ≤ 2560) (hl : lv_has ls 10 (lLoc w b oL oD i0)) {M : Mem} (hr : Rel n M) (hn : n < 512) (hI : lI w s H locs oL oD cL cD x y b L xs M) (kk : ∀ (H1 : Heap) (locs1 : List Loc) (ls1 : Array Slot) (x1 : Int64) (y1 : UInt64) (M2 : Mem), Rel (n + 1) M2 → lv_has ls1 10 (lLoc w b oL oD i0) → lI w s H1 locs1 oL oD cL cD x1 y1 b L xs M2 → W p l e R s m args below meth c H1 locs1 (cells + 2) (slots + 12) Q (F0 m 2998 ls1 [])) : W p l e R s m args below meth c H locs cells slots Q (F0 m 508 ls []) := by
  obtain ⟨o, M1, h1, r, M2, h2, hr2, hag⟩ := pair_present hr hn (xs (i0 + 1))
  have hes : ∀ z : Nat, 1 ≤ (fun x => if x = 1 then 1 else if x = 3 then 2 else 0) z → (z, nI ((fun x => if x = 1 then 1 else if x = 3 then 2 else 0) z)) ∈ ([(1, 1), (3, 2)] : List (Nat × Int32)) := by
    intro z hz
    by_cases z1 : z = 1
    · subst z1; decide
    by_cases z3 : z = 3
    · subst z3; decide
    exact absurd hz (by simp [z1, z3])
  obtain ⟨x1, hres, ha⟩ := ag_res (f := (fun v => v.toInt64)) (x := x) hag hes
  exact l_c3 hsf hx hb hml hown hR hi hLL hl hI h1 hres h2 rfl ha (fun H1 locs1 ls1 hl1 hI1 => W.widen (by omega) (by omega) (kk H1 locs1 ls1 x1 y M2 hr2 hl1 hI1))
theorem s_c4 {n : Nat} {p : Program} {l : Launch} {e : Env} {R : Room} {s : State} {m : MethodId} {args : Array Value} {below : List Frame} {meth : Method} {c : Code} {H : Heap} {locs : List Loc} {cells slots : Nat} {Q : State → Prop} {ls : Array Slot} {w : WD} {oL oD b L i0 : Nat} {xs : Nat → Int32} {cL cD : ClassId} {x : Int64} {y : UInt64} (hsf : l.stackTraces = false) (hx : p.tables.exec = Jvm.exec) (hb : c.code = cL_law) (hml : c.maxLocals = 10) (hown : s.vm.findClass "ShareVaultLaw" = some m.cls) (hR : 13 ≤ R.frames ∧ 400 ≤ R.locals ∧ cells + 2 ≤ R.cells ∧ slots + 12 ≤ R.slots) (hi : i0 + 4 < L) (hLL : L ≤ 2560) (hl : lv_has ls 10 (lLoc w b oL oD i0)) {M : Mem} (hr : Rel n M) (hn : n < 512) (hI : lI w s H locs oL oD cL cD x y b L xs M) (kk : ∀ (H1 : Heap) (locs1 : List Loc) (ls1 : Array Slot) (x1 : Int64) (y1 : UInt64) (M2 : Mem), Rel (n + 1) M2 → lv_has ls1 10 (lLoc w b oL oD i0) → lI w s H1 locs1 oL oD cL cD x1 y1 b L xs M2 → W p l e R s m args below meth c H1 locs1 (cells + 2) (slots + 12) Q (F0 m 2998 ls1 [])) : W p l e R s m args below meth c H locs cells slots Q (F0 m 564 ls []) := by
  obtain ⟨o, M1, h1, r, M2, h2, hr2, hag⟩ := pair_takeBack hr hn (xs (i0 + 1))
  have hes : ∀ z : Nat, 1 ≤ (fun x => if x = 1 then 1 else if x = 3 then 2 else 0) z → (z, nI ((fun x => if x = 1 then 1 else if x = 3 then 2 else 0) z)) ∈ ([(1, 1), (3, 2)] : List (Nat × Int32)) := by
    intro z hz
    by_cases z1 : z = 1
    · subst z1; decide
    by_cases z3 : z = 3
    · subst z3; decide
    exact absurd hz (by simp [z1, z3])
  obtain ⟨x1, hres, ha⟩ := ag_res (f := (fun v => v.toInt64)) (x := x) hag hes
  exact l_c4 hsf hx hb hml hown hR hi hLL hl hI h1 hres h2 rfl ha (fun H1 locs1 ls1 hl1 hI1 => W.widen (by omega) (by omega) (kk H1 locs1 ls1 x1 y M2 hr2 hl1 hI1))
theorem s_c5 {n : Nat} {p : Program} {l : Launch} {e : Env} {R : Room} {s : State} {m : MethodId} {args : Array Value} {below : List Frame} {meth : Method} {c : Code} {H : Heap} {locs : List Loc} {cells slots : Nat} {Q : State → Prop} {ls : Array Slot} {w : WD} {oL oD b L i0 : Nat} {xs : Nat → Int32} {cL cD : ClassId} {x : Int64} {y : UInt64} (hsf : l.stackTraces = false) (hx : p.tables.exec = Jvm.exec) (hb : c.code = cL_law) (hml : c.maxLocals = 10) (hown : s.vm.findClass "ShareVaultLaw" = some m.cls) (hR : 13 ≤ R.frames ∧ 400 ≤ R.locals ∧ cells + 2 ≤ R.cells ∧ slots + 12 ≤ R.slots) (hi : i0 + 4 < L) (hLL : L ≤ 2560) (hl : lv_has ls 10 (lLoc w b oL oD i0)) {M : Mem} (hr : Rel n M) (hn : n < 512) (hI : lI w s H locs oL oD cL cD x y b L xs M) (kk : ∀ (H1 : Heap) (locs1 : List Loc) (ls1 : Array Slot) (x1 : Int64) (y1 : UInt64) (M2 : Mem), Rel (n + 1) M2 → lv_has ls1 10 (lLoc w b oL oD i0) → lI w s H1 locs1 oL oD cL cD x1 y1 b L xs M2 → W p l e R s m args below meth c H1 locs1 (cells + 2) (slots + 12) Q (F0 m 2998 ls1 [])) : W p l e R s m args below meth c H locs cells slots Q (F0 m 620 ls []) := by
  obtain ⟨o, M1, h1, r, M2, h2, hr2, hag⟩ := pair_openVault hr hn
  have hes : ∀ z : Nat, 1 ≤ (fun x => if x = 3 then 1 else 0) z → (z, nI ((fun x => if x = 3 then 1 else 0) z)) ∈ ([(3, 1)] : List (Nat × Int32)) := by
    intro z hz
    by_cases z3 : z = 3
    · subst z3; decide
    exact absurd hz (by simp [z3])
  obtain ⟨x1, hres, ha⟩ := ag_res (f := (fun v => if v = 0 then 0 else 1)) (x := x) hag hes
  exact l_c5 hsf hx hb hml hown hR hi hLL hl hI h1 hres h2 rfl ha (fun H1 locs1 ls1 hl1 hI1 => W.widen (by omega) (by omega) (kk H1 locs1 ls1 x1 y M2 hr2 hl1 hI1))
theorem s_c6 {n : Nat} {p : Program} {l : Launch} {e : Env} {R : Room} {s : State} {m : MethodId} {args : Array Value} {below : List Frame} {meth : Method} {c : Code} {H : Heap} {locs : List Loc} {cells slots : Nat} {Q : State → Prop} {ls : Array Slot} {w : WD} {oL oD b L i0 : Nat} {xs : Nat → Int32} {cL cD : ClassId} {x : Int64} {y : UInt64} (hsf : l.stackTraces = false) (hx : p.tables.exec = Jvm.exec) (hb : c.code = cL_law) (hml : c.maxLocals = 10) (hown : s.vm.findClass "ShareVaultLaw" = some m.cls) (hR : 13 ≤ R.frames ∧ 400 ≤ R.locals ∧ cells + 2 ≤ R.cells ∧ slots + 12 ≤ R.slots) (hi : i0 + 4 < L) (hLL : L ≤ 2560) (hl : lv_has ls 10 (lLoc w b oL oD i0)) {M : Mem} (hr : Rel n M) (hn : n < 512) (hI : lI w s H locs oL oD cL cD x y b L xs M) (kk : ∀ (H1 : Heap) (locs1 : List Loc) (ls1 : Array Slot) (x1 : Int64) (y1 : UInt64) (M2 : Mem), Rel (n + 1) M2 → lv_has ls1 10 (lLoc w b oL oD i0) → lI w s H1 locs1 oL oD cL cD x1 y1 b L xs M2 → W p l e R s m args below meth c H1 locs1 (cells + 2) (slots + 12) Q (F0 m 2998 ls1 [])) : W p l e R s m args below meth c H locs cells slots Q (F0 m 671 ls []) := by
  obtain ⟨o, M1, h1, r, M2, h2, hr2, hag⟩ := pair_closeVault hr hn
  have hes : ∀ z : Nat, 1 ≤ (fun x => if x = 3 then 1 else 0) z → (z, nI ((fun x => if x = 3 then 1 else 0) z)) ∈ ([(3, 1)] : List (Nat × Int32)) := by
    intro z hz
    by_cases z3 : z = 3
    · subst z3; decide
    exact absurd hz (by simp [z3])
  obtain ⟨x1, hres, ha⟩ := ag_res (f := (fun v => v.toInt64)) (x := x) hag hes
  exact l_c6 hsf hx hb hml hown hR hi hLL hl hI h1 hres h2 rfl ha (fun H1 locs1 ls1 hl1 hI1 => W.widen (by omega) (by omega) (kk H1 locs1 ls1 x1 y M2 hr2 hl1 hI1))
theorem s_c7 {n : Nat} {p : Program} {l : Launch} {e : Env} {R : Room} {s : State} {m : MethodId} {args : Array Value} {below : List Frame} {meth : Method} {c : Code} {H : Heap} {locs : List Loc} {cells slots : Nat} {Q : State → Prop} {ls : Array Slot} {w : WD} {oL oD b L i0 : Nat} {xs : Nat → Int32} {cL cD : ClassId} {x : Int64} {y : UInt64} (hsf : l.stackTraces = false) (hx : p.tables.exec = Jvm.exec) (hb : c.code = cL_law) (hml : c.maxLocals = 10) (hown : s.vm.findClass "ShareVaultLaw" = some m.cls) (hR : 13 ≤ R.frames ∧ 400 ≤ R.locals ∧ cells + 2 ≤ R.cells ∧ slots + 12 ≤ R.slots) (hi : i0 + 4 < L) (hLL : L ≤ 2560) (hl : lv_has ls 10 (lLoc w b oL oD i0)) {M : Mem} (hr : Rel n M) (hn : n < 512) (hI : lI w s H locs oL oD cL cD x y b L xs M) (kk : ∀ (H1 : Heap) (locs1 : List Loc) (ls1 : Array Slot) (x1 : Int64) (y1 : UInt64) (M2 : Mem), Rel (n + 1) M2 → lv_has ls1 10 (lLoc w b oL oD i0) → lI w s H1 locs1 oL oD cL cD x1 y1 b L xs M2 → W p l e R s m args below meth c H1 locs1 (cells + 2) (slots + 12) Q (F0 m 2998 ls1 [])) : W p l e R s m args below meth c H locs cells slots Q (F0 m 715 ls []) := by
  obtain ⟨b9, hb9, eb9⟩ := l_b2 (xs (i0 + 2))
  obtain ⟨o, M1, h1, r, M2, h2, hr2, hag⟩ := pair_addGuard hr hn hb9 (xs (i0 + 1)) (xs (i0 + 3))
  rw [← eb9] at h1 h2
  have hes : ∀ z : Nat, 1 ≤ (fun x => if x = 2 then 1 else if x = 3 then 2 else 0) z → (z, nI ((fun x => if x = 2 then 1 else if x = 3 then 2 else 0) z)) ∈ ([(2, 1), (3, 2)] : List (Nat × Int32)) := by
    intro z hz
    by_cases z2 : z = 2
    · subst z2; decide
    by_cases z3 : z = 3
    · subst z3; decide
    exact absurd hz (by simp [z2, z3])
  obtain ⟨x1, hres, ha⟩ := ag_res (f := (fun v => v.toInt64)) (x := x) hag hes
  exact l_c7 hsf hx hb hml hown hR hi hLL hl hI h1 hres h2 rfl ha (fun H1 locs1 ls1 hl1 hI1 => W.widen (by omega) (by omega) (kk H1 locs1 ls1 x1 y M2 hr2 hl1 hI1))
theorem s_c8 {n : Nat} {p : Program} {l : Launch} {e : Env} {R : Room} {s : State} {m : MethodId} {args : Array Value} {below : List Frame} {meth : Method} {c : Code} {H : Heap} {locs : List Loc} {cells slots : Nat} {Q : State → Prop} {ls : Array Slot} {w : WD} {oL oD b L i0 : Nat} {xs : Nat → Int32} {cL cD : ClassId} {x : Int64} {y : UInt64} (hsf : l.stackTraces = false) (hx : p.tables.exec = Jvm.exec) (hb : c.code = cL_law) (hml : c.maxLocals = 10) (hown : s.vm.findClass "ShareVaultLaw" = some m.cls) (hR : 13 ≤ R.frames ∧ 400 ≤ R.locals ∧ cells + 2 ≤ R.cells ∧ slots + 12 ≤ R.slots) (hi : i0 + 4 < L) (hLL : L ≤ 2560) (hl : lv_has ls 10 (lLoc w b oL oD i0)) {M : Mem} (hr : Rel n M) (hn : n < 512) (hI : lI w s H locs oL oD cL cD x y b L xs M) (kk : ∀ (H1 : Heap) (locs1 : List Loc) (ls1 : Array Slot) (x1 : Int64) (y1 : UInt64) (M2 : Mem), Rel (n + 1) M2 → lv_has ls1 10 (lLoc w b oL oD i0) → lI w s H1 locs1 oL oD cL cD x1 y1 b L xs M2 → W p l e R s m args below meth c H1 locs1 (cells + 2) (slots + 12) Q (F0 m 2998 ls1 [])) : W p l e R s m args below meth c H locs cells slots Q (F0 m 811 ls []) := by
  obtain ⟨o, M1, h1, r, M2, h2, hr2, hag⟩ := pair_turnGuard hr hn (xs (i0 + 1))
  have hes : ∀ z : Nat, 1 ≤ (fun x => if x = 1 then 1 else 0) z → (z, nI ((fun x => if x = 1 then 1 else 0) z)) ∈ ([(1, 1)] : List (Nat × Int32)) := by
    intro z hz
    by_cases z1 : z = 1
    · subst z1; decide
    exact absurd hz (by simp [z1])
  obtain ⟨x1, hres, ha⟩ := ag_res (f := (fun v => if v = 0 then 0 else 1)) (x := x) hag hes
  exact l_c8 hsf hx hb hml hown hR hi hLL hl hI h1 hres h2 rfl ha (fun H1 locs1 ls1 hl1 hI1 => W.widen (by omega) (by omega) (kk H1 locs1 ls1 x1 y M2 hr2 hl1 hI1))
theorem s_c9 {n : Nat} {p : Program} {l : Launch} {e : Env} {R : Room} {s : State} {m : MethodId} {args : Array Value} {below : List Frame} {meth : Method} {c : Code} {H : Heap} {locs : List Loc} {cells slots : Nat} {Q : State → Prop} {ls : Array Slot} {w : WD} {oL oD b L i0 : Nat} {xs : Nat → Int32} {cL cD : ClassId} {x : Int64} {y : UInt64} (hsf : l.stackTraces = false) (hx : p.tables.exec = Jvm.exec) (hb : c.code = cL_law) (hml : c.maxLocals = 10) (hown : s.vm.findClass "ShareVaultLaw" = some m.cls) (hR : 13 ≤ R.frames ∧ 400 ≤ R.locals ∧ cells + 2 ≤ R.cells ∧ slots + 12 ≤ R.slots) (hi : i0 + 4 < L) (hLL : L ≤ 2560) (hl : lv_has ls 10 (lLoc w b oL oD i0)) {M : Mem} (hr : Rel n M) (hn : n < 512) (hI : lI w s H locs oL oD cL cD x y b L xs M) (kk : ∀ (H1 : Heap) (locs1 : List Loc) (ls1 : Array Slot) (x1 : Int64) (y1 : UInt64) (M2 : Mem), Rel (n + 1) M2 → lv_has ls1 10 (lLoc w b oL oD i0) → lI w s H1 locs1 oL oD cL cD x1 y1 b L xs M2 → W p l e R s m args below meth c H1 locs1 (cells + 2) (slots + 12) Q (F0 m 2998 ls1 [])) : W p l e R s m args below meth c H locs cells slots Q (F0 m 874 ls []) := by
  obtain ⟨o, M1, h1, r, M2, h2, hr2, hag⟩ := pair_hum hr hn (xs (i0 + 1)) (xs (i0 + 2))
  have hes : ∀ z : Nat, 1 ≤ (fun x => if x = 2 then 1 else 0) z → (z, nI ((fun x => if x = 2 then 1 else 0) z)) ∈ ([(2, 1)] : List (Nat × Int32)) := by
    intro z hz
    by_cases z2 : z = 2
    · subst z2; decide
    exact absurd hz (by simp [z2])
  obtain ⟨x1, hres, ha⟩ := ag_res (f := (fun v => v.toInt64)) (x := x) hag hes
  exact l_c9 hsf hx hb hml hown hR hi hLL hl hI h1 hres h2 rfl ha (fun H1 locs1 ls1 hl1 hI1 => W.widen (by omega) (by omega) (kk H1 locs1 ls1 x1 y M2 hr2 hl1 hI1))
theorem s_c10 {n : Nat} {p : Program} {l : Launch} {e : Env} {R : Room} {s : State} {m : MethodId} {args : Array Value} {below : List Frame} {meth : Method} {c : Code} {H : Heap} {locs : List Loc} {cells slots : Nat} {Q : State → Prop} {ls : Array Slot} {w : WD} {oL oD b L i0 : Nat} {xs : Nat → Int32} {cL cD : ClassId} {x : Int64} {y : UInt64} (hsf : l.stackTraces = false) (hx : p.tables.exec = Jvm.exec) (hb : c.code = cL_law) (hml : c.maxLocals = 10) (hown : s.vm.findClass "ShareVaultLaw" = some m.cls) (hR : 13 ≤ R.frames ∧ 400 ≤ R.locals ∧ cells + 2 ≤ R.cells ∧ slots + 12 ≤ R.slots) (hi : i0 + 4 < L) (hLL : L ≤ 2560) (hl : lv_has ls 10 (lLoc w b oL oD i0)) {M : Mem} (hr : Rel n M) (hn : n < 512) (hI : lI w s H locs oL oD cL cD x y b L xs M) (kk : ∀ (H1 : Heap) (locs1 : List Loc) (ls1 : Array Slot) (x1 : Int64) (y1 : UInt64) (M2 : Mem), Rel (n + 1) M2 → lv_has ls1 10 (lLoc w b oL oD i0) → lI w s H1 locs1 oL oD cL cD x1 y1 b L xs M2 → W p l e R s m args below meth c H1 locs1 (cells + 2) (slots + 12) Q (F0 m 2998 ls1 [])) : W p l e R s m args below meth c H locs cells slots Q (F0 m 942 ls []) := by
  obtain ⟨o, M1, h1, r, M2, h2, hr2, hag⟩ := pair_passHours hr hn (xs (i0 + 1))
  have hes : ∀ z : Nat, 1 ≤ (fun x => if x = 2 then 1 else 0) z → (z, nI ((fun x => if x = 2 then 1 else 0) z)) ∈ ([(2, 1)] : List (Nat × Int32)) := by
    intro z hz
    by_cases z2 : z = 2
    · subst z2; decide
    exact absurd hz (by simp [z2])
  obtain ⟨x1, hres, ha⟩ := ag_res (f := (fun v => v.toInt64)) (x := x) hag hes
  exact l_c10 hsf hx hb hml hown hR hi hLL hl hI h1 hres h2 rfl ha (fun H1 locs1 ls1 hl1 hI1 => W.widen (by omega) (by omega) (kk H1 locs1 ls1 x1 y M2 hr2 hl1 hI1))
theorem s_c11 {n : Nat} {p : Program} {l : Launch} {e : Env} {R : Room} {s : State} {m : MethodId} {args : Array Value} {below : List Frame} {meth : Method} {c : Code} {H : Heap} {locs : List Loc} {cells slots : Nat} {Q : State → Prop} {ls : Array Slot} {w : WD} {oL oD b L i0 : Nat} {xs : Nat → Int32} {cL cD : ClassId} {x : Int64} {y : UInt64} (hsf : l.stackTraces = false) (hx : p.tables.exec = Jvm.exec) (hb : c.code = cL_law) (hml : c.maxLocals = 10) (hown : s.vm.findClass "ShareVaultLaw" = some m.cls) (hR : 13 ≤ R.frames ∧ 400 ≤ R.locals ∧ cells + 2 ≤ R.cells ∧ slots + 12 ≤ R.slots) (hi : i0 + 4 < L) (hLL : L ≤ 2560) (hl : lv_has ls 10 (lLoc w b oL oD i0)) {M : Mem} (hr : Rel n M) (hn : n < 512) (hI : lI w s H locs oL oD cL cD x y b L xs M) (kk : ∀ (H1 : Heap) (locs1 : List Loc) (ls1 : Array Slot) (x1 : Int64) (y1 : UInt64) (M2 : Mem), Rel (n + 1) M2 → lv_has ls1 10 (lLoc w b oL oD i0) → lI w s H1 locs1 oL oD cL cD x1 y1 b L xs M2 → W p l e R s m args below meth c H1 locs1 (cells + 2) (slots + 12) Q (F0 m 2998 ls1 [])) : W p l e R s m args below meth c H locs cells slots Q (F0 m 998 ls []) := by
  obtain ⟨v, h1, r, M2, h2, hr2, rfl⟩ := pair_hour hr
  exact l_c11 hsf hx hb hml hown hR hi hLL hl hI h1 h2 (fun H1 locs1 hI1 => W.widen (by omega) (by omega) (kk H1 locs1 ls x y M2 hr2 hl hI1))
theorem s_c12 {n : Nat} {p : Program} {l : Launch} {e : Env} {R : Room} {s : State} {m : MethodId} {args : Array Value} {below : List Frame} {meth : Method} {c : Code} {H : Heap} {locs : List Loc} {cells slots : Nat} {Q : State → Prop} {ls : Array Slot} {w : WD} {oL oD b L i0 : Nat} {xs : Nat → Int32} {cL cD : ClassId} {x : Int64} {y : UInt64} (hsf : l.stackTraces = false) (hx : p.tables.exec = Jvm.exec) (hb : c.code = cL_law) (hml : c.maxLocals = 10) (hown : s.vm.findClass "ShareVaultLaw" = some m.cls) (hR : 13 ≤ R.frames ∧ 400 ≤ R.locals ∧ cells + 2 ≤ R.cells ∧ slots + 12 ≤ R.slots) (hi : i0 + 4 < L) (hLL : L ≤ 2560) (hl : lv_has ls 10 (lLoc w b oL oD i0)) {M : Mem} (hr : Rel n M) (hn : n < 512) (hI : lI w s H locs oL oD cL cD x y b L xs M) (kk : ∀ (H1 : Heap) (locs1 : List Loc) (ls1 : Array Slot) (x1 : Int64) (y1 : UInt64) (M2 : Mem), Rel (n + 1) M2 → lv_has ls1 10 (lLoc w b oL oD i0) → lI w s H1 locs1 oL oD cL cD x1 y1 b L xs M2 → W p l e R s m args below meth c H1 locs1 (cells + 2) (slots + 12) Q (F0 m 2998 ls1 [])) : W p l e R s m args below meth c H locs cells slots Q (F0 m 1011 ls []) := by
  obtain ⟨v, h1, r, M2, h2, hr2, rfl⟩ := pair_holderCount hr
  exact l_c12 hsf hx hb hml hown hR hi hLL hl hI h1 h2 (fun H1 locs1 hI1 => W.widen (by omega) (by omega) (kk H1 locs1 ls x y M2 hr2 hl hI1))
theorem s_c13 {n : Nat} {p : Program} {l : Launch} {e : Env} {R : Room} {s : State} {m : MethodId} {args : Array Value} {below : List Frame} {meth : Method} {c : Code} {H : Heap} {locs : List Loc} {cells slots : Nat} {Q : State → Prop} {ls : Array Slot} {w : WD} {oL oD b L i0 : Nat} {xs : Nat → Int32} {cL cD : ClassId} {x : Int64} {y : UInt64} (hsf : l.stackTraces = false) (hx : p.tables.exec = Jvm.exec) (hb : c.code = cL_law) (hml : c.maxLocals = 10) (hown : s.vm.findClass "ShareVaultLaw" = some m.cls) (hR : 13 ≤ R.frames ∧ 400 ≤ R.locals ∧ cells + 2 ≤ R.cells ∧ slots + 12 ≤ R.slots) (hi : i0 + 4 < L) (hLL : L ≤ 2560) (hl : lv_has ls 10 (lLoc w b oL oD i0)) {M : Mem} (hr : Rel n M) (hn : n < 512) (hI : lI w s H locs oL oD cL cD x y b L xs M) (kk : ∀ (H1 : Heap) (locs1 : List Loc) (ls1 : Array Slot) (x1 : Int64) (y1 : UInt64) (M2 : Mem), Rel (n + 1) M2 → lv_has ls1 10 (lLoc w b oL oD i0) → lI w s H1 locs1 oL oD cL cD x1 y1 b L xs M2 → W p l e R s m args below meth c H1 locs1 (cells + 2) (slots + 12) Q (F0 m 2998 ls1 [])) : W p l e R s m args below meth c H locs cells slots Q (F0 m 1024 ls []) := by
  obtain ⟨v, h1, r, M2, h2, hr2, rfl⟩ := pair_isSealed hr
  exact l_c13 hsf hx hb hml hown hR hi hLL hl hI h1 h2 (fun H1 locs1 hI1 => W.widen (by omega) (by omega) (kk H1 locs1 ls x y M2 hr2 hl hI1))
theorem s_c14 {n : Nat} {p : Program} {l : Launch} {e : Env} {R : Room} {s : State} {m : MethodId} {args : Array Value} {below : List Frame} {meth : Method} {c : Code} {H : Heap} {locs : List Loc} {cells slots : Nat} {Q : State → Prop} {ls : Array Slot} {w : WD} {oL oD b L i0 : Nat} {xs : Nat → Int32} {cL cD : ClassId} {x : Int64} {y : UInt64} (hsf : l.stackTraces = false) (hx : p.tables.exec = Jvm.exec) (hb : c.code = cL_law) (hml : c.maxLocals = 10) (hown : s.vm.findClass "ShareVaultLaw" = some m.cls) (hR : 13 ≤ R.frames ∧ 400 ≤ R.locals ∧ cells + 2 ≤ R.cells ∧ slots + 12 ≤ R.slots) (hi : i0 + 4 < L) (hLL : L ≤ 2560) (hl : lv_has ls 10 (lLoc w b oL oD i0)) {M : Mem} (hr : Rel n M) (hn : n < 512) (hI : lI w s H locs oL oD cL cD x y b L xs M) (kk : ∀ (H1 : Heap) (locs1 : List Loc) (ls1 : Array Slot) (x1 : Int64) (y1 : UInt64) (M2 : Mem), Rel (n + 1) M2 → lv_has ls1 10 (lLoc w b oL oD i0) → lI w s H1 locs1 oL oD cL cD x1 y1 b L xs M2 → W p l e R s m args below meth c H1 locs1 (cells + 2) (slots + 12) Q (F0 m 2998 ls1 [])) : W p l e R s m args below meth c H locs cells slots Q (F0 m 1037 ls []) := by
  obtain ⟨o, h1, r, M2, h2, hr2, hag⟩ := pair_threshold hr
  have hes : ∀ z : Nat, 1 ≤ (fun x => if x = 4 then 1 else 0) z → (z, nI ((fun x => if x = 4 then 1 else 0) z)) ∈ ([(4, 1)] : List (Nat × Int32)) := by
    intro z hz
    by_cases z4 : z = 4
    · subst z4; decide
    exact absurd hz (by simp [z4])
  obtain ⟨x1, hres, ha⟩ := ag_res (f := (fun v => v.toInt64)) (x := x) hag hes
  exact l_c14 hsf hx hb hml hown hR hi hLL hl hI h1 hres h2 rfl ha (fun H1 locs1 ls1 hl1 hI1 => W.widen (by omega) (by omega) (kk H1 locs1 ls1 x1 y M2 hr2 hl1 hI1))
theorem s_c15 {n : Nat} {p : Program} {l : Launch} {e : Env} {R : Room} {s : State} {m : MethodId} {args : Array Value} {below : List Frame} {meth : Method} {c : Code} {H : Heap} {locs : List Loc} {cells slots : Nat} {Q : State → Prop} {ls : Array Slot} {w : WD} {oL oD b L i0 : Nat} {xs : Nat → Int32} {cL cD : ClassId} {x : Int64} {y : UInt64} (hsf : l.stackTraces = false) (hx : p.tables.exec = Jvm.exec) (hb : c.code = cL_law) (hml : c.maxLocals = 10) (hown : s.vm.findClass "ShareVaultLaw" = some m.cls) (hR : 13 ≤ R.frames ∧ 400 ≤ R.locals ∧ cells + 2 ≤ R.cells ∧ slots + 12 ≤ R.slots) (hi : i0 + 4 < L) (hLL : L ≤ 2560) (hl : lv_has ls 10 (lLoc w b oL oD i0)) {M : Mem} (hr : Rel n M) (hn : n < 512) (hI : lI w s H locs oL oD cL cD x y b L xs M) (kk : ∀ (H1 : Heap) (locs1 : List Loc) (ls1 : Array Slot) (x1 : Int64) (y1 : UInt64) (M2 : Mem), Rel (n + 1) M2 → lv_has ls1 10 (lLoc w b oL oD i0) → lI w s H1 locs1 oL oD cL cD x1 y1 b L xs M2 → W p l e R s m args below meth c H1 locs1 (cells + 2) (slots + 12) Q (F0 m 2998 ls1 [])) : W p l e R s m args below meth c H locs cells slots Q (F0 m 1081 ls []) := by
  obtain ⟨o, h1, r, M2, h2, hr2, hag⟩ := pair_share hr (xs (i0 + 1))
  have hes : ∀ z : Nat, 1 ≤ (fun x => if x = 1 then 1 else if x = 4 then 2 else 0) z → (z, nI ((fun x => if x = 1 then 1 else if x = 4 then 2 else 0) z)) ∈ ([(1, 1), (4, 2)] : List (Nat × Int32)) := by
    intro z hz
    by_cases z1 : z = 1
    · subst z1; decide
    by_cases z4 : z = 4
    · subst z4; decide
    exact absurd hz (by simp [z1, z4])
  obtain ⟨x1, hres, ha⟩ := ag_res (f := (fun v => v.toInt64)) (x := x) hag hes
  exact l_c15 hsf hx hb hml hown hR hi hLL hl hI h1 hres h2 rfl ha (fun H1 locs1 ls1 hl1 hI1 => W.widen (by omega) (by omega) (kk H1 locs1 ls1 x1 y M2 hr2 hl1 hI1))
theorem s_c16 {n : Nat} {p : Program} {l : Launch} {e : Env} {R : Room} {s : State} {m : MethodId} {args : Array Value} {below : List Frame} {meth : Method} {c : Code} {H : Heap} {locs : List Loc} {cells slots : Nat} {Q : State → Prop} {ls : Array Slot} {w : WD} {oL oD b L i0 : Nat} {xs : Nat → Int32} {cL cD : ClassId} {x : Int64} {y : UInt64} (hsf : l.stackTraces = false) (hx : p.tables.exec = Jvm.exec) (hb : c.code = cL_law) (hml : c.maxLocals = 10) (hown : s.vm.findClass "ShareVaultLaw" = some m.cls) (hR : 13 ≤ R.frames ∧ 400 ≤ R.locals ∧ cells + 2 ≤ R.cells ∧ slots + 12 ≤ R.slots) (hi : i0 + 4 < L) (hLL : L ≤ 2560) (hl : lv_has ls 10 (lLoc w b oL oD i0)) {M : Mem} (hr : Rel n M) (hn : n < 512) (hI : lI w s H locs oL oD cL cD x y b L xs M) (kk : ∀ (H1 : Heap) (locs1 : List Loc) (ls1 : Array Slot) (x1 : Int64) (y1 : UInt64) (M2 : Mem), Rel (n + 1) M2 → lv_has ls1 10 (lLoc w b oL oD i0) → lI w s H1 locs1 oL oD cL cD x1 y1 b L xs M2 → W p l e R s m args below meth c H1 locs1 (cells + 2) (slots + 12) Q (F0 m 2998 ls1 [])) : W p l e R s m args below meth c H locs cells slots Q (F0 m 1137 ls []) := by
  obtain ⟨o, h1, r, M2, h2, hr2, hag⟩ := pair_isCorrect hr (xs (i0 + 1))
  have hes : ∀ z : Nat, 1 ≤ (fun x => if x = 1 then 1 else if x = 4 then 2 else 0) z → (z, nI ((fun x => if x = 1 then 1 else if x = 4 then 2 else 0) z)) ∈ ([(1, 1), (4, 2)] : List (Nat × Int32)) := by
    intro z hz
    by_cases z1 : z = 1
    · subst z1; decide
    by_cases z4 : z = 4
    · subst z4; decide
    exact absurd hz (by simp [z1, z4])
  obtain ⟨x1, hres, ha⟩ := ag_res (f := (fun v => if v = 0 then 0 else 1)) (x := x) hag hes
  exact l_c16 hsf hx hb hml hown hR hi hLL hl hI h1 hres h2 rfl ha (fun H1 locs1 ls1 hl1 hI1 => W.widen (by omega) (by omega) (kk H1 locs1 ls1 x1 y M2 hr2 hl1 hI1))
theorem s_c17 {n : Nat} {p : Program} {l : Launch} {e : Env} {R : Room} {s : State} {m : MethodId} {args : Array Value} {below : List Frame} {meth : Method} {c : Code} {H : Heap} {locs : List Loc} {cells slots : Nat} {Q : State → Prop} {ls : Array Slot} {w : WD} {oL oD b L i0 : Nat} {xs : Nat → Int32} {cL cD : ClassId} {x : Int64} {y : UInt64} (hsf : l.stackTraces = false) (hx : p.tables.exec = Jvm.exec) (hb : c.code = cL_law) (hml : c.maxLocals = 10) (hown : s.vm.findClass "ShareVaultLaw" = some m.cls) (hR : 13 ≤ R.frames ∧ 400 ≤ R.locals ∧ cells + 2 ≤ R.cells ∧ slots + 12 ≤ R.slots) (hi : i0 + 4 < L) (hLL : L ≤ 2560) (hl : lv_has ls 10 (lLoc w b oL oD i0)) {M : Mem} (hr : Rel n M) (hn : n < 512) (hI : lI w s H locs oL oD cL cD x y b L xs M) (kk : ∀ (H1 : Heap) (locs1 : List Loc) (ls1 : Array Slot) (x1 : Int64) (y1 : UInt64) (M2 : Mem), Rel (n + 1) M2 → lv_has ls1 10 (lLoc w b oL oD i0) → lI w s H1 locs1 oL oD cL cD x1 y1 b L xs M2 → W p l e R s m args below meth c H1 locs1 (cells + 2) (slots + 12) Q (F0 m 2998 ls1 [])) : W p l e R s m args below meth c H locs cells slots Q (F0 m 1200 ls []) := by
  obtain ⟨o, h1, r, M2, h2, hr2, hag⟩ := pair_isPresented hr (xs (i0 + 1))
  have hes : ∀ z : Nat, 1 ≤ (fun x => if x = 1 then 1 else 0) z → (z, nI ((fun x => if x = 1 then 1 else 0) z)) ∈ ([(1, 1)] : List (Nat × Int32)) := by
    intro z hz
    by_cases z1 : z = 1
    · subst z1; decide
    exact absurd hz (by simp [z1])
  obtain ⟨x1, hres, ha⟩ := ag_res (f := (fun v => if v = 0 then 0 else 1)) (x := x) hag hes
  exact l_c17 hsf hx hb hml hown hR hi hLL hl hI h1 hres h2 rfl ha (fun H1 locs1 ls1 hl1 hI1 => W.widen (by omega) (by omega) (kk H1 locs1 ls1 x1 y M2 hr2 hl1 hI1))
theorem s_c18 {n : Nat} {p : Program} {l : Launch} {e : Env} {R : Room} {s : State} {m : MethodId} {args : Array Value} {below : List Frame} {meth : Method} {c : Code} {H : Heap} {locs : List Loc} {cells slots : Nat} {Q : State → Prop} {ls : Array Slot} {w : WD} {oL oD b L i0 : Nat} {xs : Nat → Int32} {cL cD : ClassId} {x : Int64} {y : UInt64} (hsf : l.stackTraces = false) (hx : p.tables.exec = Jvm.exec) (hb : c.code = cL_law) (hml : c.maxLocals = 10) (hown : s.vm.findClass "ShareVaultLaw" = some m.cls) (hR : 13 ≤ R.frames ∧ 400 ≤ R.locals ∧ cells + 2 ≤ R.cells ∧ slots + 12 ≤ R.slots) (hi : i0 + 4 < L) (hLL : L ≤ 2560) (hl : lv_has ls 10 (lLoc w b oL oD i0)) {M : Mem} (hr : Rel n M) (hn : n < 512) (hI : lI w s H locs oL oD cL cD x y b L xs M) (kk : ∀ (H1 : Heap) (locs1 : List Loc) (ls1 : Array Slot) (x1 : Int64) (y1 : UInt64) (M2 : Mem), Rel (n + 1) M2 → lv_has ls1 10 (lLoc w b oL oD i0) → lI w s H1 locs1 oL oD cL cD x1 y1 b L xs M2 → W p l e R s m args below meth c H1 locs1 (cells + 2) (slots + 12) Q (F0 m 2998 ls1 [])) : W p l e R s m args below meth c H locs cells slots Q (F0 m 1263 ls []) := by
  obtain ⟨v, h1, r, M2, h2, hr2, rfl⟩ := pair_presentedCount hr
  exact l_c18 hsf hx hb hml hown hR hi hLL hl hI h1 h2 (fun H1 locs1 hI1 => W.widen (by omega) (by omega) (kk H1 locs1 ls x y M2 hr2 hl hI1))
theorem s_c19 {n : Nat} {p : Program} {l : Launch} {e : Env} {R : Room} {s : State} {m : MethodId} {args : Array Value} {below : List Frame} {meth : Method} {c : Code} {H : Heap} {locs : List Loc} {cells slots : Nat} {Q : State → Prop} {ls : Array Slot} {w : WD} {oL oD b L i0 : Nat} {xs : Nat → Int32} {cL cD : ClassId} {x : Int64} {y : UInt64} (hsf : l.stackTraces = false) (hx : p.tables.exec = Jvm.exec) (hb : c.code = cL_law) (hml : c.maxLocals = 10) (hown : s.vm.findClass "ShareVaultLaw" = some m.cls) (hR : 13 ≤ R.frames ∧ 400 ≤ R.locals ∧ cells + 2 ≤ R.cells ∧ slots + 12 ≤ R.slots) (hi : i0 + 4 < L) (hLL : L ≤ 2560) (hl : lv_has ls 10 (lLoc w b oL oD i0)) {M : Mem} (hr : Rel n M) (hn : n < 512) (hI : lI w s H locs oL oD cL cD x y b L xs M) (kk : ∀ (H1 : Heap) (locs1 : List Loc) (ls1 : Array Slot) (x1 : Int64) (y1 : UInt64) (M2 : Mem), Rel (n + 1) M2 → lv_has ls1 10 (lLoc w b oL oD i0) → lI w s H1 locs1 oL oD cL cD x1 y1 b L xs M2 → W p l e R s m args below meth c H1 locs1 (cells + 2) (slots + 12) Q (F0 m 2998 ls1 [])) : W p l e R s m args below meth c H locs cells slots Q (F0 m 1276 ls []) := by
  obtain ⟨o, h1, r, M2, h2, hr2, hag⟩ := pair_presentedAt hr (xs (i0 + 1))
  have hes : ∀ z : Nat, 1 ≤ (fun x => if x = 4 then 1 else 0) z → (z, nI ((fun x => if x = 4 then 1 else 0) z)) ∈ ([(4, 1)] : List (Nat × Int32)) := by
    intro z hz
    by_cases z4 : z = 4
    · subst z4; decide
    exact absurd hz (by simp [z4])
  obtain ⟨x1, hres, ha⟩ := ag_res (f := (fun v => v.toInt64)) (x := x) hag hes
  exact l_c19 hsf hx hb hml hown hR hi hLL hl hI h1 hres h2 rfl ha (fun H1 locs1 ls1 hl1 hI1 => W.widen (by omega) (by omega) (kk H1 locs1 ls1 x1 y M2 hr2 hl1 hI1))
theorem s_c20 {n : Nat} {p : Program} {l : Launch} {e : Env} {R : Room} {s : State} {m : MethodId} {args : Array Value} {below : List Frame} {meth : Method} {c : Code} {H : Heap} {locs : List Loc} {cells slots : Nat} {Q : State → Prop} {ls : Array Slot} {w : WD} {oL oD b L i0 : Nat} {xs : Nat → Int32} {cL cD : ClassId} {x : Int64} {y : UInt64} (hsf : l.stackTraces = false) (hx : p.tables.exec = Jvm.exec) (hb : c.code = cL_law) (hml : c.maxLocals = 10) (hown : s.vm.findClass "ShareVaultLaw" = some m.cls) (hR : 13 ≤ R.frames ∧ 400 ≤ R.locals ∧ cells + 2 ≤ R.cells ∧ slots + 12 ≤ R.slots) (hi : i0 + 4 < L) (hLL : L ≤ 2560) (hl : lv_has ls 10 (lLoc w b oL oD i0)) {M : Mem} (hr : Rel n M) (hn : n < 512) (hI : lI w s H locs oL oD cL cD x y b L xs M) (kk : ∀ (H1 : Heap) (locs1 : List Loc) (ls1 : Array Slot) (x1 : Int64) (y1 : UInt64) (M2 : Mem), Rel (n + 1) M2 → lv_has ls1 10 (lLoc w b oL oD i0) → lI w s H1 locs1 oL oD cL cD x1 y1 b L xs M2 → W p l e R s m args below meth c H1 locs1 (cells + 2) (slots + 12) Q (F0 m 2998 ls1 [])) : W p l e R s m args below meth c H locs cells slots Q (F0 m 1332 ls []) := by
  obtain ⟨o, h1, r, M2, h2, hr2, hag⟩ := pair_toldSecret hr
  have hes : ∀ z : Nat, 1 ≤ (fun x => if x = 4 then 1 else 0) z → (z, nI ((fun x => if x = 4 then 1 else 0) z)) ∈ ([(4, 1)] : List (Nat × Int32)) := by
    intro z hz
    by_cases z4 : z = 4
    · subst z4; decide
    exact absurd hz (by simp [z4])
  obtain ⟨x1, hres, ha⟩ := ag_res (f := (fun v => v.toInt64)) (x := x) hag hes
  exact l_c20 hsf hx hb hml hown hR hi hLL hl hI h1 hres h2 rfl ha (fun H1 locs1 ls1 hl1 hI1 => W.widen (by omega) (by omega) (kk H1 locs1 ls1 x1 y M2 hr2 hl1 hI1))
theorem s_c21 {n : Nat} {p : Program} {l : Launch} {e : Env} {R : Room} {s : State} {m : MethodId} {args : Array Value} {below : List Frame} {meth : Method} {c : Code} {H : Heap} {locs : List Loc} {cells slots : Nat} {Q : State → Prop} {ls : Array Slot} {w : WD} {oL oD b L i0 : Nat} {xs : Nat → Int32} {cL cD : ClassId} {x : Int64} {y : UInt64} (hsf : l.stackTraces = false) (hx : p.tables.exec = Jvm.exec) (hb : c.code = cL_law) (hml : c.maxLocals = 10) (hown : s.vm.findClass "ShareVaultLaw" = some m.cls) (hR : 13 ≤ R.frames ∧ 400 ≤ R.locals ∧ cells + 2 ≤ R.cells ∧ slots + 12 ≤ R.slots) (hi : i0 + 4 < L) (hLL : L ≤ 2560) (hl : lv_has ls 10 (lLoc w b oL oD i0)) {M : Mem} (hr : Rel n M) (hn : n < 512) (hI : lI w s H locs oL oD cL cD x y b L xs M) (kk : ∀ (H1 : Heap) (locs1 : List Loc) (ls1 : Array Slot) (x1 : Int64) (y1 : UInt64) (M2 : Mem), Rel (n + 1) M2 → lv_has ls1 10 (lLoc w b oL oD i0) → lI w s H1 locs1 oL oD cL cD x1 y1 b L xs M2 → W p l e R s m args below meth c H1 locs1 (cells + 2) (slots + 12) Q (F0 m 2998 ls1 [])) : W p l e R s m args below meth c H locs cells slots Q (F0 m 1376 ls []) := by
  obtain ⟨o, M1, h1, r, M2, h2, hr2, hag⟩ := pair_toldSecretByElimination hr
  have hes : ∀ z : Nat, 1 ≤ (fun x => if x = 4 then 1 else 0) z → (z, nI ((fun x => if x = 4 then 1 else 0) z)) ∈ ([(4, 1)] : List (Nat × Int32)) := by
    intro z hz
    by_cases z4 : z = 4
    · subst z4; decide
    exact absurd hz (by simp [z4])
  obtain ⟨x1, hres, ha⟩ := ag_res (f := (fun v => v.toInt64)) (x := x) hag hes
  exact l_c21 hsf hx hb hml hown hR hi hLL hl hI h1 hres h2 rfl ha (fun H1 locs1 ls1 hl1 hI1 => W.widen (by omega) (by omega) (kk H1 locs1 ls1 x1 y M2 hr2 hl1 hI1))
theorem s_c22 {n : Nat} {p : Program} {l : Launch} {e : Env} {R : Room} {s : State} {m : MethodId} {args : Array Value} {below : List Frame} {meth : Method} {c : Code} {H : Heap} {locs : List Loc} {cells slots : Nat} {Q : State → Prop} {ls : Array Slot} {w : WD} {oL oD b L i0 : Nat} {xs : Nat → Int32} {cL cD : ClassId} {x : Int64} {y : UInt64} (hsf : l.stackTraces = false) (hx : p.tables.exec = Jvm.exec) (hb : c.code = cL_law) (hml : c.maxLocals = 10) (hown : s.vm.findClass "ShareVaultLaw" = some m.cls) (hR : 13 ≤ R.frames ∧ 400 ≤ R.locals ∧ cells + 2 ≤ R.cells ∧ slots + 12 ≤ R.slots) (hi : i0 + 4 < L) (hLL : L ≤ 2560) (hl : lv_has ls 10 (lLoc w b oL oD i0)) {M : Mem} (hr : Rel n M) (hn : n < 512) (hI : lI w s H locs oL oD cL cD x y b L xs M) (kk : ∀ (H1 : Heap) (locs1 : List Loc) (ls1 : Array Slot) (x1 : Int64) (y1 : UInt64) (M2 : Mem), Rel (n + 1) M2 → lv_has ls1 10 (lLoc w b oL oD i0) → lI w s H1 locs1 oL oD cL cD x1 y1 b L xs M2 → W p l e R s m args below meth c H1 locs1 (cells + 2) (slots + 12) Q (F0 m 2998 ls1 [])) : W p l e R s m args below meth c H locs cells slots Q (F0 m 1420 ls []) := by
  obtain ⟨o, h1, r, M2, h2, hr2, hag⟩ := pair_toldValue hr (xs (i0 + 1))
  have hes : ∀ z : Nat, 1 ≤ (fun x => if x = 2 then 1 else if x = 4 then 2 else 0) z → (z, nI ((fun x => if x = 2 then 1 else if x = 4 then 2 else 0) z)) ∈ ([(2, 1), (4, 2)] : List (Nat × Int32)) := by
    intro z hz
    by_cases z2 : z = 2
    · subst z2; decide
    by_cases z4 : z = 4
    · subst z4; decide
    exact absurd hz (by simp [z2, z4])
  obtain ⟨x1, hres, ha⟩ := ag_res (f := (fun v => v.toInt64)) (x := x) hag hes
  exact l_c22 hsf hx hb hml hown hR hi hLL hl hI h1 hres h2 rfl ha (fun H1 locs1 ls1 hl1 hI1 => W.widen (by omega) (by omega) (kk H1 locs1 ls1 x1 y M2 hr2 hl1 hI1))
theorem s_c23 {n : Nat} {p : Program} {l : Launch} {e : Env} {R : Room} {s : State} {m : MethodId} {args : Array Value} {below : List Frame} {meth : Method} {c : Code} {H : Heap} {locs : List Loc} {cells slots : Nat} {Q : State → Prop} {ls : Array Slot} {w : WD} {oL oD b L i0 : Nat} {xs : Nat → Int32} {cL cD : ClassId} {x : Int64} {y : UInt64} (hsf : l.stackTraces = false) (hx : p.tables.exec = Jvm.exec) (hb : c.code = cL_law) (hml : c.maxLocals = 10) (hown : s.vm.findClass "ShareVaultLaw" = some m.cls) (hR : 13 ≤ R.frames ∧ 400 ≤ R.locals ∧ cells + 2 ≤ R.cells ∧ slots + 12 ≤ R.slots) (hi : i0 + 4 < L) (hLL : L ≤ 2560) (hl : lv_has ls 10 (lLoc w b oL oD i0)) {M : Mem} (hr : Rel n M) (hn : n < 512) (hI : lI w s H locs oL oD cL cD x y b L xs M) (kk : ∀ (H1 : Heap) (locs1 : List Loc) (ls1 : Array Slot) (x1 : Int64) (y1 : UInt64) (M2 : Mem), Rel (n + 1) M2 → lv_has ls1 10 (lLoc w b oL oD i0) → lI w s H1 locs1 oL oD cL cD x1 y1 b L xs M2 → W p l e R s m args below meth c H1 locs1 (cells + 2) (slots + 12) Q (F0 m 2998 ls1 [])) : W p l e R s m args below meth c H locs cells slots Q (F0 m 1476 ls []) := by
  obtain ⟨o, h1, r, M2, h2, hr2, hag⟩ := pair_doAgree hr
  have hes : ∀ z : Nat, 1 ≤ (fun x => if x = 4 then 1 else 0) z → (z, nI ((fun x => if x = 4 then 1 else 0) z)) ∈ ([(4, 1)] : List (Nat × Int32)) := by
    intro z hz
    by_cases z4 : z = 4
    · subst z4; decide
    exact absurd hz (by simp [z4])
  obtain ⟨x1, hres, ha⟩ := ag_res (f := (fun v => if v = 0 then 0 else 1)) (x := x) hag hes
  exact l_c23 hsf hx hb hml hown hR hi hLL hl hI h1 hres h2 rfl ha (fun H1 locs1 ls1 hl1 hI1 => W.widen (by omega) (by omega) (kk H1 locs1 ls1 x1 y M2 hr2 hl1 hI1))
theorem s_c24 {n : Nat} {p : Program} {l : Launch} {e : Env} {R : Room} {s : State} {m : MethodId} {args : Array Value} {below : List Frame} {meth : Method} {c : Code} {H : Heap} {locs : List Loc} {cells slots : Nat} {Q : State → Prop} {ls : Array Slot} {w : WD} {oL oD b L i0 : Nat} {xs : Nat → Int32} {cL cD : ClassId} {x : Int64} {y : UInt64} (hsf : l.stackTraces = false) (hx : p.tables.exec = Jvm.exec) (hb : c.code = cL_law) (hml : c.maxLocals = 10) (hown : s.vm.findClass "ShareVaultLaw" = some m.cls) (hR : 13 ≤ R.frames ∧ 400 ≤ R.locals ∧ cells + 2 ≤ R.cells ∧ slots + 12 ≤ R.slots) (hi : i0 + 4 < L) (hLL : L ≤ 2560) (hl : lv_has ls 10 (lLoc w b oL oD i0)) {M : Mem} (hr : Rel n M) (hn : n < 512) (hI : lI w s H locs oL oD cL cD x y b L xs M) (kk : ∀ (H1 : Heap) (locs1 : List Loc) (ls1 : Array Slot) (x1 : Int64) (y1 : UInt64) (M2 : Mem), Rel (n + 1) M2 → lv_has ls1 10 (lLoc w b oL oD i0) → lI w s H1 locs1 oL oD cL cD x1 y1 b L xs M2 → W p l e R s m args below meth c H1 locs1 (cells + 2) (slots + 12) Q (F0 m 2998 ls1 [])) : W p l e R s m args below meth c H locs cells slots Q (F0 m 1527 ls []) := by
  obtain ⟨o, M1, h1, r, M2, h2, hr2, hag⟩ := pair_mostAgreeing hr
  have hes : ∀ z : Nat, 1 ≤ (fun x => if x = 4 then 1 else 0) z → (z, nI ((fun x => if x = 4 then 1 else 0) z)) ∈ ([(4, 1)] : List (Nat × Int32)) := by
    intro z hz
    by_cases z4 : z = 4
    · subst z4; decide
    exact absurd hz (by simp [z4])
  obtain ⟨x1, hres, ha⟩ := ag_res (f := (fun v => v.toInt64)) (x := x) hag hes
  exact l_c24 hsf hx hb hml hown hR hi hLL hl hI h1 hres h2 rfl ha (fun H1 locs1 ls1 hl1 hI1 => W.widen (by omega) (by omega) (kk H1 locs1 ls1 x1 y M2 hr2 hl1 hI1))
theorem s_c25 {n : Nat} {p : Program} {l : Launch} {e : Env} {R : Room} {s : State} {m : MethodId} {args : Array Value} {below : List Frame} {meth : Method} {c : Code} {H : Heap} {locs : List Loc} {cells slots : Nat} {Q : State → Prop} {ls : Array Slot} {w : WD} {oL oD b L i0 : Nat} {xs : Nat → Int32} {cL cD : ClassId} {x : Int64} {y : UInt64} (hsf : l.stackTraces = false) (hx : p.tables.exec = Jvm.exec) (hb : c.code = cL_law) (hml : c.maxLocals = 10) (hown : s.vm.findClass "ShareVaultLaw" = some m.cls) (hR : 13 ≤ R.frames ∧ 400 ≤ R.locals ∧ cells + 2 ≤ R.cells ∧ slots + 12 ≤ R.slots) (hi : i0 + 4 < L) (hLL : L ≤ 2560) (hl : lv_has ls 10 (lLoc w b oL oD i0)) {M : Mem} (hr : Rel n M) (hn : n < 512) (hI : lI w s H locs oL oD cL cD x y b L xs M) (kk : ∀ (H1 : Heap) (locs1 : List Loc) (ls1 : Array Slot) (x1 : Int64) (y1 : UInt64) (M2 : Mem), Rel (n + 1) M2 → lv_has ls1 10 (lLoc w b oL oD i0) → lI w s H1 locs1 oL oD cL cD x1 y1 b L xs M2 → W p l e R s m args below meth c H1 locs1 (cells + 2) (slots + 12) Q (F0 m 2998 ls1 [])) : W p l e R s m args below meth c H locs cells slots Q (F0 m 1571 ls []) := by
  obtain ⟨o, M1, h1, r, M2, h2, hr2, hag⟩ := pair_mostAgreeingBySets hr
  have hes : ∀ z : Nat, 1 ≤ (fun x => if x = 4 then 1 else 0) z → (z, nI ((fun x => if x = 4 then 1 else 0) z)) ∈ ([(4, 1)] : List (Nat × Int32)) := by
    intro z hz
    by_cases z4 : z = 4
    · subst z4; decide
    exact absurd hz (by simp [z4])
  obtain ⟨x1, hres, ha⟩ := ag_res (f := (fun v => v.toInt64)) (x := x) hag hes
  exact l_c25 hsf hx hb hml hown hR hi hLL hl hI h1 hres h2 rfl ha (fun H1 locs1 ls1 hl1 hI1 => W.widen (by omega) (by omega) (kk H1 locs1 ls1 x1 y M2 hr2 hl1 hI1))
theorem s_c26 {n : Nat} {p : Program} {l : Launch} {e : Env} {R : Room} {s : State} {m : MethodId} {args : Array Value} {below : List Frame} {meth : Method} {c : Code} {H : Heap} {locs : List Loc} {cells slots : Nat} {Q : State → Prop} {ls : Array Slot} {w : WD} {oL oD b L i0 : Nat} {xs : Nat → Int32} {cL cD : ClassId} {x : Int64} {y : UInt64} (hsf : l.stackTraces = false) (hx : p.tables.exec = Jvm.exec) (hb : c.code = cL_law) (hml : c.maxLocals = 10) (hown : s.vm.findClass "ShareVaultLaw" = some m.cls) (hR : 13 ≤ R.frames ∧ 400 ≤ R.locals ∧ cells + 2 ≤ R.cells ∧ slots + 12 ≤ R.slots) (hi : i0 + 4 < L) (hLL : L ≤ 2560) (hl : lv_has ls 10 (lLoc w b oL oD i0)) {M : Mem} (hr : Rel n M) (hn : n < 512) (hI : lI w s H locs oL oD cL cD x y b L xs M) (kk : ∀ (H1 : Heap) (locs1 : List Loc) (ls1 : Array Slot) (x1 : Int64) (y1 : UInt64) (M2 : Mem), Rel (n + 1) M2 → lv_has ls1 10 (lLoc w b oL oD i0) → lI w s H1 locs1 oL oD cL cD x1 y1 b L xs M2 → W p l e R s m args below meth c H1 locs1 (cells + 2) (slots + 12) Q (F0 m 2998 ls1 [])) : W p l e R s m args below meth c H locs cells slots Q (F0 m 1615 ls []) := by
  obtain ⟨v, h1, r, M2, h2, hr2, rfl⟩ := pair_isOpen hr
  exact l_c26 hsf hx hb hml hown hR hi hLL hl hI h1 h2 (fun H1 locs1 hI1 => W.widen (by omega) (by omega) (kk H1 locs1 ls x y M2 hr2 hl hI1))
theorem s_c27 {n : Nat} {p : Program} {l : Launch} {e : Env} {R : Room} {s : State} {m : MethodId} {args : Array Value} {below : List Frame} {meth : Method} {c : Code} {H : Heap} {locs : List Loc} {cells slots : Nat} {Q : State → Prop} {ls : Array Slot} {w : WD} {oL oD b L i0 : Nat} {xs : Nat → Int32} {cL cD : ClassId} {x : Int64} {y : UInt64} (hsf : l.stackTraces = false) (hx : p.tables.exec = Jvm.exec) (hb : c.code = cL_law) (hml : c.maxLocals = 10) (hown : s.vm.findClass "ShareVaultLaw" = some m.cls) (hR : 13 ≤ R.frames ∧ 400 ≤ R.locals ∧ cells + 2 ≤ R.cells ∧ slots + 12 ≤ R.slots) (hi : i0 + 4 < L) (hLL : L ≤ 2560) (hl : lv_has ls 10 (lLoc w b oL oD i0)) {M : Mem} (hr : Rel n M) (hn : n < 512) (hI : lI w s H locs oL oD cL cD x y b L xs M) (kk : ∀ (H1 : Heap) (locs1 : List Loc) (ls1 : Array Slot) (x1 : Int64) (y1 : UInt64) (M2 : Mem), Rel (n + 1) M2 → lv_has ls1 10 (lLoc w b oL oD i0) → lI w s H1 locs1 oL oD cL cD x1 y1 b L xs M2 → W p l e R s m args below meth c H1 locs1 (cells + 2) (slots + 12) Q (F0 m 2998 ls1 [])) : W p l e R s m args below meth c H locs cells slots Q (F0 m 1628 ls []) := by
  obtain ⟨v, h1, r, M2, h2, hr2, rfl⟩ := pair_lockedHours hr
  exact l_c27 hsf hx hb hml hown hR hi hLL hl hI h1 h2 (fun H1 locs1 hI1 => W.widen (by omega) (by omega) (kk H1 locs1 ls x y M2 hr2 hl hI1))
theorem s_c28 {n : Nat} {p : Program} {l : Launch} {e : Env} {R : Room} {s : State} {m : MethodId} {args : Array Value} {below : List Frame} {meth : Method} {c : Code} {H : Heap} {locs : List Loc} {cells slots : Nat} {Q : State → Prop} {ls : Array Slot} {w : WD} {oL oD b L i0 : Nat} {xs : Nat → Int32} {cL cD : ClassId} {x : Int64} {y : UInt64} (hsf : l.stackTraces = false) (hx : p.tables.exec = Jvm.exec) (hb : c.code = cL_law) (hml : c.maxLocals = 10) (hown : s.vm.findClass "ShareVaultLaw" = some m.cls) (hR : 13 ≤ R.frames ∧ 400 ≤ R.locals ∧ cells + 2 ≤ R.cells ∧ slots + 12 ≤ R.slots) (hi : i0 + 4 < L) (hLL : L ≤ 2560) (hl : lv_has ls 10 (lLoc w b oL oD i0)) {M : Mem} (hr : Rel n M) (hn : n < 512) (hI : lI w s H locs oL oD cL cD x y b L xs M) (kk : ∀ (H1 : Heap) (locs1 : List Loc) (ls1 : Array Slot) (x1 : Int64) (y1 : UInt64) (M2 : Mem), Rel (n + 1) M2 → lv_has ls1 10 (lLoc w b oL oD i0) → lI w s H1 locs1 oL oD cL cD x1 y1 b L xs M2 → W p l e R s m args below meth c H1 locs1 (cells + 2) (slots + 12) Q (F0 m 2998 ls1 [])) : W p l e R s m args below meth c H locs cells slots Q (F0 m 1641 ls []) := by
  obtain ⟨v, h1, r, M2, h2, hr2, rfl⟩ := pair_failedAttempts hr
  exact l_c28 hsf hx hb hml hown hR hi hLL hl hI h1 h2 (fun H1 locs1 hI1 => W.widen (by omega) (by omega) (kk H1 locs1 ls x y M2 hr2 hl hI1))
theorem s_c29 {n : Nat} {p : Program} {l : Launch} {e : Env} {R : Room} {s : State} {m : MethodId} {args : Array Value} {below : List Frame} {meth : Method} {c : Code} {H : Heap} {locs : List Loc} {cells slots : Nat} {Q : State → Prop} {ls : Array Slot} {w : WD} {oL oD b L i0 : Nat} {xs : Nat → Int32} {cL cD : ClassId} {x : Int64} {y : UInt64} (hsf : l.stackTraces = false) (hx : p.tables.exec = Jvm.exec) (hb : c.code = cL_law) (hml : c.maxLocals = 10) (hown : s.vm.findClass "ShareVaultLaw" = some m.cls) (hR : 13 ≤ R.frames ∧ 400 ≤ R.locals ∧ cells + 2 ≤ R.cells ∧ slots + 12 ≤ R.slots) (hi : i0 + 4 < L) (hLL : L ≤ 2560) (hl : lv_has ls 10 (lLoc w b oL oD i0)) {M : Mem} (hr : Rel n M) (hn : n < 512) (hI : lI w s H locs oL oD cL cD x y b L xs M) (kk : ∀ (H1 : Heap) (locs1 : List Loc) (ls1 : Array Slot) (x1 : Int64) (y1 : UInt64) (M2 : Mem), Rel (n + 1) M2 → lv_has ls1 10 (lLoc w b oL oD i0) → lI w s H1 locs1 oL oD cL cD x1 y1 b L xs M2 → W p l e R s m args below meth c H1 locs1 (cells + 2) (slots + 12) Q (F0 m 2998 ls1 [])) : W p l e R s m args below meth c H locs cells slots Q (F0 m 1654 ls []) := by
  obtain ⟨v, h1, r, M2, h2, hr2, rfl⟩ := pair_guardCount hr
  exact l_c29 hsf hx hb hml hown hR hi hLL hl hI h1 h2 (fun H1 locs1 hI1 => W.widen (by omega) (by omega) (kk H1 locs1 ls x y M2 hr2 hl hI1))
theorem s_c30 {n : Nat} {p : Program} {l : Launch} {e : Env} {R : Room} {s : State} {m : MethodId} {args : Array Value} {below : List Frame} {meth : Method} {c : Code} {H : Heap} {locs : List Loc} {cells slots : Nat} {Q : State → Prop} {ls : Array Slot} {w : WD} {oL oD b L i0 : Nat} {xs : Nat → Int32} {cL cD : ClassId} {x : Int64} {y : UInt64} (hsf : l.stackTraces = false) (hx : p.tables.exec = Jvm.exec) (hb : c.code = cL_law) (hml : c.maxLocals = 10) (hown : s.vm.findClass "ShareVaultLaw" = some m.cls) (hR : 13 ≤ R.frames ∧ 400 ≤ R.locals ∧ cells + 2 ≤ R.cells ∧ slots + 12 ≤ R.slots) (hi : i0 + 4 < L) (hLL : L ≤ 2560) (hl : lv_has ls 10 (lLoc w b oL oD i0)) {M : Mem} (hr : Rel n M) (hn : n < 512) (hI : lI w s H locs oL oD cL cD x y b L xs M) (kk : ∀ (H1 : Heap) (locs1 : List Loc) (ls1 : Array Slot) (x1 : Int64) (y1 : UInt64) (M2 : Mem), Rel (n + 1) M2 → lv_has ls1 10 (lLoc w b oL oD i0) → lI w s H1 locs1 oL oD cL cD x1 y1 b L xs M2 → W p l e R s m args below meth c H1 locs1 (cells + 2) (slots + 12) Q (F0 m 2998 ls1 [])) : W p l e R s m args below meth c H locs cells slots Q (F0 m 1667 ls []) := by
  obtain ⟨o, h1, r, M2, h2, hr2, hag⟩ := pair_zoneOf hr (xs (i0 + 1))
  have hes : ∀ z : Nat, 1 ≤ (fun x => if x = 1 then 1 else 0) z → (z, nI ((fun x => if x = 1 then 1 else 0) z)) ∈ ([(1, 1)] : List (Nat × Int32)) := by
    intro z hz
    by_cases z1 : z = 1
    · subst z1; decide
    exact absurd hz (by simp [z1])
  obtain ⟨x1, hres, ha⟩ := ag_res (f := (fun v => v.toInt64)) (x := x) hag hes
  exact l_c30 hsf hx hb hml hown hR hi hLL hl hI h1 hres h2 rfl ha (fun H1 locs1 ls1 hl1 hI1 => W.widen (by omega) (by omega) (kk H1 locs1 ls1 x1 y M2 hr2 hl1 hI1))
theorem s_c31 {n : Nat} {p : Program} {l : Launch} {e : Env} {R : Room} {s : State} {m : MethodId} {args : Array Value} {below : List Frame} {meth : Method} {c : Code} {H : Heap} {locs : List Loc} {cells slots : Nat} {Q : State → Prop} {ls : Array Slot} {w : WD} {oL oD b L i0 : Nat} {xs : Nat → Int32} {cL cD : ClassId} {x : Int64} {y : UInt64} (hsf : l.stackTraces = false) (hx : p.tables.exec = Jvm.exec) (hb : c.code = cL_law) (hml : c.maxLocals = 10) (hown : s.vm.findClass "ShareVaultLaw" = some m.cls) (hR : 13 ≤ R.frames ∧ 400 ≤ R.locals ∧ cells + 2 ≤ R.cells ∧ slots + 12 ≤ R.slots) (hi : i0 + 4 < L) (hLL : L ≤ 2560) (hl : lv_has ls 10 (lLoc w b oL oD i0)) {M : Mem} (hr : Rel n M) (hn : n < 512) (hI : lI w s H locs oL oD cL cD x y b L xs M) (kk : ∀ (H1 : Heap) (locs1 : List Loc) (ls1 : Array Slot) (x1 : Int64) (y1 : UInt64) (M2 : Mem), Rel (n + 1) M2 → lv_has ls1 10 (lLoc w b oL oD i0) → lI w s H1 locs1 oL oD cL cD x1 y1 b L xs M2 → W p l e R s m args below meth c H1 locs1 (cells + 2) (slots + 12) Q (F0 m 2998 ls1 [])) : W p l e R s m args below meth c H locs cells slots Q (F0 m 1723 ls []) := by
  obtain ⟨o, h1, r, M2, h2, hr2, hag⟩ := pair_isForwards hr (xs (i0 + 1))
  have hes : ∀ z : Nat, 1 ≤ (fun x => if x = 1 then 1 else 0) z → (z, nI ((fun x => if x = 1 then 1 else 0) z)) ∈ ([(1, 1)] : List (Nat × Int32)) := by
    intro z hz
    by_cases z1 : z = 1
    · subst z1; decide
    exact absurd hz (by simp [z1])
  obtain ⟨x1, hres, ha⟩ := ag_res (f := (fun v => if v = 0 then 0 else 1)) (x := x) hag hes
  exact l_c31 hsf hx hb hml hown hR hi hLL hl hI h1 hres h2 rfl ha (fun H1 locs1 ls1 hl1 hI1 => W.widen (by omega) (by omega) (kk H1 locs1 ls1 x1 y M2 hr2 hl1 hI1))
theorem s_c32 {n : Nat} {p : Program} {l : Launch} {e : Env} {R : Room} {s : State} {m : MethodId} {args : Array Value} {below : List Frame} {meth : Method} {c : Code} {H : Heap} {locs : List Loc} {cells slots : Nat} {Q : State → Prop} {ls : Array Slot} {w : WD} {oL oD b L i0 : Nat} {xs : Nat → Int32} {cL cD : ClassId} {x : Int64} {y : UInt64} (hsf : l.stackTraces = false) (hx : p.tables.exec = Jvm.exec) (hb : c.code = cL_law) (hml : c.maxLocals = 10) (hown : s.vm.findClass "ShareVaultLaw" = some m.cls) (hR : 13 ≤ R.frames ∧ 400 ≤ R.locals ∧ cells + 2 ≤ R.cells ∧ slots + 12 ≤ R.slots) (hi : i0 + 4 < L) (hLL : L ≤ 2560) (hl : lv_has ls 10 (lLoc w b oL oD i0)) {M : Mem} (hr : Rel n M) (hn : n < 512) (hI : lI w s H locs oL oD cL cD x y b L xs M) (kk : ∀ (H1 : Heap) (locs1 : List Loc) (ls1 : Array Slot) (x1 : Int64) (y1 : UInt64) (M2 : Mem), Rel (n + 1) M2 → lv_has ls1 10 (lLoc w b oL oD i0) → lI w s H1 locs1 oL oD cL cD x1 y1 b L xs M2 → W p l e R s m args below meth c H1 locs1 (cells + 2) (slots + 12) Q (F0 m 2998 ls1 [])) : W p l e R s m args below meth c H locs cells slots Q (F0 m 1786 ls []) := by
  obtain ⟨o, h1, r, M2, h2, hr2, hag⟩ := pair_noise hr (xs (i0 + 1))
  have hes : ∀ z : Nat, 1 ≤ (fun x => if x = 2 then 1 else 0) z → (z, nI ((fun x => if x = 2 then 1 else 0) z)) ∈ ([(2, 1)] : List (Nat × Int32)) := by
    intro z hz
    by_cases z2 : z = 2
    · subst z2; decide
    exact absurd hz (by simp [z2])
  obtain ⟨x1, hres, ha⟩ := ag_res (f := (fun v => v.toInt64)) (x := x) hag hes
  exact l_c32 hsf hx hb hml hown hR hi hLL hl hI h1 hres h2 rfl ha (fun H1 locs1 ls1 hl1 hI1 => W.widen (by omega) (by omega) (kk H1 locs1 ls1 x1 y M2 hr2 hl1 hI1))
theorem s_c33 {n : Nat} {p : Program} {l : Launch} {e : Env} {R : Room} {s : State} {m : MethodId} {args : Array Value} {below : List Frame} {meth : Method} {c : Code} {H : Heap} {locs : List Loc} {cells slots : Nat} {Q : State → Prop} {ls : Array Slot} {w : WD} {oL oD b L i0 : Nat} {xs : Nat → Int32} {cL cD : ClassId} {x : Int64} {y : UInt64} (hsf : l.stackTraces = false) (hx : p.tables.exec = Jvm.exec) (hb : c.code = cL_law) (hml : c.maxLocals = 10) (hown : s.vm.findClass "ShareVaultLaw" = some m.cls) (hR : 13 ≤ R.frames ∧ 400 ≤ R.locals ∧ cells + 2 ≤ R.cells ∧ slots + 12 ≤ R.slots) (hi : i0 + 4 < L) (hLL : L ≤ 2560) (hl : lv_has ls 10 (lLoc w b oL oD i0)) {M : Mem} (hr : Rel n M) (hn : n < 512) (hI : lI w s H locs oL oD cL cD x y b L xs M) (kk : ∀ (H1 : Heap) (locs1 : List Loc) (ls1 : Array Slot) (x1 : Int64) (y1 : UInt64) (M2 : Mem), Rel (n + 1) M2 → lv_has ls1 10 (lLoc w b oL oD i0) → lI w s H1 locs1 oL oD cL cD x1 y1 b L xs M2 → W p l e R s m args below meth c H1 locs1 (cells + 2) (slots + 12) Q (F0 m 2998 ls1 [])) : W p l e R s m args below meth c H locs cells slots Q (F0 m 1842 ls []) := by
  obtain ⟨o, h1, r, M2, h2, hr2, hag⟩ := pair_isGuarded hr (xs (i0 + 1))
  have hes : ∀ z : Nat, 1 ≤ (fun x => if x = 2 then 1 else 0) z → (z, nI ((fun x => if x = 2 then 1 else 0) z)) ∈ ([(2, 1)] : List (Nat × Int32)) := by
    intro z hz
    by_cases z2 : z = 2
    · subst z2; decide
    exact absurd hz (by simp [z2])
  obtain ⟨x1, hres, ha⟩ := ag_res (f := (fun v => if v = 0 then 0 else 1)) (x := x) hag hes
  exact l_c33 hsf hx hb hml hown hR hi hLL hl hI h1 hres h2 rfl ha (fun H1 locs1 ls1 hl1 hI1 => W.widen (by omega) (by omega) (kk H1 locs1 ls1 x1 y M2 hr2 hl1 hI1))
theorem s_c34 {n : Nat} {p : Program} {l : Launch} {e : Env} {R : Room} {s : State} {m : MethodId} {args : Array Value} {below : List Frame} {meth : Method} {c : Code} {H : Heap} {locs : List Loc} {cells slots : Nat} {Q : State → Prop} {ls : Array Slot} {w : WD} {oL oD b L i0 : Nat} {xs : Nat → Int32} {cL cD : ClassId} {x : Int64} {y : UInt64} (hsf : l.stackTraces = false) (hx : p.tables.exec = Jvm.exec) (hb : c.code = cL_law) (hml : c.maxLocals = 10) (hown : s.vm.findClass "ShareVaultLaw" = some m.cls) (hR : 13 ≤ R.frames ∧ 400 ≤ R.locals ∧ cells + 2 ≤ R.cells ∧ slots + 12 ≤ R.slots) (hi : i0 + 4 < L) (hLL : L ≤ 2560) (hl : lv_has ls 10 (lLoc w b oL oD i0)) {M : Mem} (hr : Rel n M) (hn : n < 512) (hI : lI w s H locs oL oD cL cD x y b L xs M) (kk : ∀ (H1 : Heap) (locs1 : List Loc) (ls1 : Array Slot) (x1 : Int64) (y1 : UInt64) (M2 : Mem), Rel (n + 1) M2 → lv_has ls1 10 (lLoc w b oL oD i0) → lI w s H1 locs1 oL oD cL cD x1 y1 b L xs M2 → W p l e R s m args below meth c H1 locs1 (cells + 2) (slots + 12) Q (F0 m 2998 ls1 [])) : W p l e R s m args below meth c H locs cells slots Q (F0 m 1905 ls []) := by
  obtain ⟨o, M1, h1, r, M2, h2, hr2, hag⟩ := pair_hoursUntilVisit hr hn (xs (i0 + 1))
  have hes : ∀ z : Nat, 1 ≤ (fun x => if x = 2 then 1 else if x = 4 then 2 else 0) z → (z, nI ((fun x => if x = 2 then 1 else if x = 4 then 2 else 0) z)) ∈ ([(2, 1), (4, 2)] : List (Nat × Int32)) := by
    intro z hz
    by_cases z2 : z = 2
    · subst z2; decide
    by_cases z4 : z = 4
    · subst z4; decide
    exact absurd hz (by simp [z2, z4])
  obtain ⟨x1, hres, ha⟩ := ag_res (f := (fun v => v.toInt64)) (x := x) hag hes
  exact l_c34 hsf hx hb hml hown hR hi hLL hl hI h1 hres h2 rfl ha (fun H1 locs1 ls1 hl1 hI1 => W.widen (by omega) (by omega) (kk H1 locs1 ls1 x1 y M2 hr2 hl1 hI1))
theorem s_c35 {n : Nat} {p : Program} {l : Launch} {e : Env} {R : Room} {s : State} {m : MethodId} {args : Array Value} {below : List Frame} {meth : Method} {c : Code} {H : Heap} {locs : List Loc} {cells slots : Nat} {Q : State → Prop} {ls : Array Slot} {w : WD} {oL oD b L i0 : Nat} {xs : Nat → Int32} {cL cD : ClassId} {x : Int64} {y : UInt64} (hsf : l.stackTraces = false) (hx : p.tables.exec = Jvm.exec) (hb : c.code = cL_law) (hml : c.maxLocals = 10) (hown : s.vm.findClass "ShareVaultLaw" = some m.cls) (hR : 13 ≤ R.frames ∧ 400 ≤ R.locals ∧ cells + 2 ≤ R.cells ∧ slots + 12 ≤ R.slots) (hi : i0 + 4 < L) (hLL : L ≤ 2560) (hl : lv_has ls 10 (lLoc w b oL oD i0)) {M : Mem} (hr : Rel n M) (hn : n < 512) (hI : lI w s H locs oL oD cL cD x y b L xs M) (kk : ∀ (H1 : Heap) (locs1 : List Loc) (ls1 : Array Slot) (x1 : Int64) (y1 : UInt64) (M2 : Mem), Rel (n + 1) M2 → lv_has ls1 10 (lLoc w b oL oD i0) → lI w s H1 locs1 oL oD cL cD x1 y1 b L xs M2 → W p l e R s m args below meth c H1 locs1 (cells + 2) (slots + 12) Q (F0 m 2998 ls1 [])) : W p l e R s m args below meth c H locs cells slots Q (F0 m 1961 ls []) := by
  obtain ⟨o, h1, r, M2, h2, hr2, hag⟩ := pair_hoursUntilVisitByRemainders hr hn (xs (i0 + 1))
  have hes : ∀ z : Nat, 1 ≤ (fun x => if x = 2 then 1 else if x = 4 then 2 else 0) z → (z, nI ((fun x => if x = 2 then 1 else if x = 4 then 2 else 0) z)) ∈ ([(2, 1), (4, 2)] : List (Nat × Int32)) := by
    intro z hz
    by_cases z2 : z = 2
    · subst z2; decide
    by_cases z4 : z = 4
    · subst z4; decide
    exact absurd hz (by simp [z2, z4])
  obtain ⟨x1, hres, ha⟩ := ag_res (f := (fun v => v.toInt64)) (x := x) hag hes
  exact l_c35 hsf hx hb hml hown hR hi hLL hl hI h1 hres h2 rfl ha (fun H1 locs1 ls1 hl1 hI1 => W.widen (by omega) (by omega) (kk H1 locs1 ls1 x1 y M2 hr2 hl1 hI1))
theorem s_c36 {n : Nat} {p : Program} {l : Launch} {e : Env} {R : Room} {s : State} {m : MethodId} {args : Array Value} {below : List Frame} {meth : Method} {c : Code} {H : Heap} {locs : List Loc} {cells slots : Nat} {Q : State → Prop} {ls : Array Slot} {w : WD} {oL oD b L i0 : Nat} {xs : Nat → Int32} {cL cD : ClassId} {x : Int64} {y : UInt64} (hsf : l.stackTraces = false) (hx : p.tables.exec = Jvm.exec) (hb : c.code = cL_law) (hml : c.maxLocals = 10) (hown : s.vm.findClass "ShareVaultLaw" = some m.cls) (hR : 13 ≤ R.frames ∧ 400 ≤ R.locals ∧ cells + 2 ≤ R.cells ∧ slots + 12 ≤ R.slots) (hi : i0 + 4 < L) (hLL : L ≤ 2560) (hl : lv_has ls 10 (lLoc w b oL oD i0)) {M : Mem} (hr : Rel n M) (hn : n < 512) (hI : lI w s H locs oL oD cL cD x y b L xs M) (kk : ∀ (H1 : Heap) (locs1 : List Loc) (ls1 : Array Slot) (x1 : Int64) (y1 : UInt64) (M2 : Mem), Rel (n + 1) M2 → lv_has ls1 10 (lLoc w b oL oD i0) → lI w s H1 locs1 oL oD cL cD x1 y1 b L xs M2 → W p l e R s m args below meth c H1 locs1 (cells + 2) (slots + 12) Q (F0 m 2998 ls1 [])) : W p l e R s m args below meth c H locs cells slots Q (F0 m 2017 ls []) := by
  obtain ⟨o, M1, h1, r, M2, h2, hr2, hag⟩ := pair_alarmsIn hr hn (xs (i0 + 1))
  have hes : ∀ z : Nat, 1 ≤ (fun x => if x = 2 then 1 else 0) z → (z, nI ((fun x => if x = 2 then 1 else 0) z)) ∈ ([(2, 1)] : List (Nat × Int32)) := by
    intro z hz
    by_cases z2 : z = 2
    · subst z2; decide
    exact absurd hz (by simp [z2])
  obtain ⟨x1, hres, ha⟩ := ag_res (f := (fun v => v.toInt64)) (x := x) hag hes
  exact l_c36 hsf hx hb hml hown hR hi hLL hl hI h1 hres h2 rfl ha (fun H1 locs1 ls1 hl1 hI1 => W.widen (by omega) (by omega) (kk H1 locs1 ls1 x1 y M2 hr2 hl1 hI1))
theorem s_c37 {n : Nat} {p : Program} {l : Launch} {e : Env} {R : Room} {s : State} {m : MethodId} {args : Array Value} {below : List Frame} {meth : Method} {c : Code} {H : Heap} {locs : List Loc} {cells slots : Nat} {Q : State → Prop} {ls : Array Slot} {w : WD} {oL oD b L i0 : Nat} {xs : Nat → Int32} {cL cD : ClassId} {x : Int64} {y : UInt64} (hsf : l.stackTraces = false) (hx : p.tables.exec = Jvm.exec) (hb : c.code = cL_law) (hml : c.maxLocals = 10) (hown : s.vm.findClass "ShareVaultLaw" = some m.cls) (hR : 13 ≤ R.frames ∧ 400 ≤ R.locals ∧ cells + 2 ≤ R.cells ∧ slots + 12 ≤ R.slots) (hi : i0 + 4 < L) (hLL : L ≤ 2560) (hl : lv_has ls 10 (lLoc w b oL oD i0)) {M : Mem} (hr : Rel n M) (hn : n < 512) (hI : lI w s H locs oL oD cL cD x y b L xs M) (kk : ∀ (H1 : Heap) (locs1 : List Loc) (ls1 : Array Slot) (x1 : Int64) (y1 : UInt64) (M2 : Mem), Rel (n + 1) M2 → lv_has ls1 10 (lLoc w b oL oD i0) → lI w s H1 locs1 oL oD cL cD x1 y1 b L xs M2 → W p l e R s m args below meth c H1 locs1 (cells + 2) (slots + 12) Q (F0 m 2998 ls1 [])) : W p l e R s m args below meth c H locs cells slots Q (F0 m 2073 ls []) := by
  obtain ⟨o, h1, r, M2, h2, hr2, hag⟩ := pair_zoneByNoise hr hn (xs (i0 + 1))
  have hes : ∀ z : Nat, 1 ≤ (fun x => if x = 4 then 1 else 0) z → (z, nI ((fun x => if x = 4 then 1 else 0) z)) ∈ ([(4, 1)] : List (Nat × Int32)) := by
    intro z hz
    by_cases z4 : z = 4
    · subst z4; decide
    exact absurd hz (by simp [z4])
  obtain ⟨x1, hres, ha⟩ := ag_res (f := (fun v => v.toInt64)) (x := x) hag hes
  exact l_c37 hsf hx hb hml hown hR hi hLL hl hI h1 hres h2 rfl ha (fun H1 locs1 ls1 hl1 hI1 => W.widen (by omega) (by omega) (kk H1 locs1 ls1 x1 y M2 hr2 hl1 hI1))
theorem s_c38 {n : Nat} {p : Program} {l : Launch} {e : Env} {R : Room} {s : State} {m : MethodId} {args : Array Value} {below : List Frame} {meth : Method} {c : Code} {H : Heap} {locs : List Loc} {cells slots : Nat} {Q : State → Prop} {ls : Array Slot} {w : WD} {oL oD b L i0 : Nat} {xs : Nat → Int32} {cL cD : ClassId} {x : Int64} {y : UInt64} (hsf : l.stackTraces = false) (hx : p.tables.exec = Jvm.exec) (hb : c.code = cL_law) (hml : c.maxLocals = 10) (hown : s.vm.findClass "ShareVaultLaw" = some m.cls) (hR : 13 ≤ R.frames ∧ 400 ≤ R.locals ∧ cells + 2 ≤ R.cells ∧ slots + 12 ≤ R.slots) (hi : i0 + 4 < L) (hLL : L ≤ 2560) (hl : lv_has ls 10 (lLoc w b oL oD i0)) {M : Mem} (hr : Rel n M) (hn : n < 512) (hI : lI w s H locs oL oD cL cD x y b L xs M) (kk : ∀ (H1 : Heap) (locs1 : List Loc) (ls1 : Array Slot) (x1 : Int64) (y1 : UInt64) (M2 : Mem), Rel (n + 1) M2 → lv_has ls1 10 (lLoc w b oL oD i0) → lI w s H1 locs1 oL oD cL cD x1 y1 b L xs M2 → W p l e R s m args below meth c H1 locs1 (cells + 2) (slots + 12) Q (F0 m 2998 ls1 [])) : W p l e R s m args below meth c H locs cells slots Q (F0 m 2129 ls []) := by
  obtain ⟨o, h1, r, M2, h2, hr2, hag⟩ := pair_alarmsOf hr (xs (i0 + 1))
  have hes : ∀ z : Nat, 1 ≤ (fun x => if x = 2 then 1 else 0) z → (z, nI ((fun x => if x = 2 then 1 else 0) z)) ∈ ([(2, 1)] : List (Nat × Int32)) := by
    intro z hz
    by_cases z2 : z = 2
    · subst z2; decide
    exact absurd hz (by simp [z2])
  obtain ⟨x1, hres, ha⟩ := ag_res (f := (fun v => v.toInt64)) (x := x) hag hes
  exact l_c38 hsf hx hb hml hown hR hi hLL hl hI h1 hres h2 rfl ha (fun H1 locs1 ls1 hl1 hI1 => W.widen (by omega) (by omega) (kk H1 locs1 ls1 x1 y M2 hr2 hl1 hI1))
theorem s_c39 {n : Nat} {p : Program} {l : Launch} {e : Env} {R : Room} {s : State} {m : MethodId} {args : Array Value} {below : List Frame} {meth : Method} {c : Code} {H : Heap} {locs : List Loc} {cells slots : Nat} {Q : State → Prop} {ls : Array Slot} {w : WD} {oL oD b L i0 : Nat} {xs : Nat → Int32} {cL cD : ClassId} {x : Int64} {y : UInt64} (hsf : l.stackTraces = false) (hx : p.tables.exec = Jvm.exec) (hb : c.code = cL_law) (hml : c.maxLocals = 10) (hown : s.vm.findClass "ShareVaultLaw" = some m.cls) (hR : 13 ≤ R.frames ∧ 400 ≤ R.locals ∧ cells + 2 ≤ R.cells ∧ slots + 12 ≤ R.slots) (hi : i0 + 4 < L) (hLL : L ≤ 2560) (hl : lv_has ls 10 (lLoc w b oL oD i0)) {M : Mem} (hr : Rel n M) (hn : n < 512) (hI : lI w s H locs oL oD cL cD x y b L xs M) (kk : ∀ (H1 : Heap) (locs1 : List Loc) (ls1 : Array Slot) (x1 : Int64) (y1 : UInt64) (M2 : Mem), Rel (n + 1) M2 → lv_has ls1 10 (lLoc w b oL oD i0) → lI w s H1 locs1 oL oD cL cD x1 y1 b L xs M2 → W p l e R s m args below meth c H1 locs1 (cells + 2) (slots + 12) Q (F0 m 2998 ls1 [])) : W p l e R s m args below meth c H locs cells slots Q (F0 m 2185 ls []) := by
  obtain ⟨v, h1, r, M2, h2, hr2, rfl⟩ := pair_alarmCount hr
  exact l_c39 hsf hx hb hml hown hR hi hLL hl hI h1 h2 (fun H1 locs1 hI1 => W.widen (by omega) (by omega) (kk H1 locs1 ls x y M2 hr2 hl hI1))
theorem s_c40 {n : Nat} {p : Program} {l : Launch} {e : Env} {R : Room} {s : State} {m : MethodId} {args : Array Value} {below : List Frame} {meth : Method} {c : Code} {H : Heap} {locs : List Loc} {cells slots : Nat} {Q : State → Prop} {ls : Array Slot} {w : WD} {oL oD b L i0 : Nat} {xs : Nat → Int32} {cL cD : ClassId} {x : Int64} {y : UInt64} (hsf : l.stackTraces = false) (hx : p.tables.exec = Jvm.exec) (hb : c.code = cL_law) (hml : c.maxLocals = 10) (hown : s.vm.findClass "ShareVaultLaw" = some m.cls) (hR : 13 ≤ R.frames ∧ 400 ≤ R.locals ∧ cells + 2 ≤ R.cells ∧ slots + 12 ≤ R.slots) (hi : i0 + 4 < L) (hLL : L ≤ 2560) (hl : lv_has ls 10 (lLoc w b oL oD i0)) {M : Mem} (hr : Rel n M) (hn : n < 512) (hI : lI w s H locs oL oD cL cD x y b L xs M) (kk : ∀ (H1 : Heap) (locs1 : List Loc) (ls1 : Array Slot) (x1 : Int64) (y1 : UInt64) (M2 : Mem), Rel (n + 1) M2 → lv_has ls1 10 (lLoc w b oL oD i0) → lI w s H1 locs1 oL oD cL cD x1 y1 b L xs M2 → W p l e R s m args below meth c H1 locs1 (cells + 2) (slots + 12) Q (F0 m 2998 ls1 [])) : W p l e R s m args below meth c H locs cells slots Q (F0 m 2198 ls []) := by
  obtain ⟨v, h1, r, M2, h2, hr2, rfl⟩ := pair_openingCount hr
  exact l_c40 hsf hx hb hml hown hR hi hLL hl hI h1 h2 (fun H1 locs1 hI1 => W.widen (by omega) (by omega) (kk H1 locs1 ls x y M2 hr2 hl hI1))
theorem s_c41 {n : Nat} {p : Program} {l : Launch} {e : Env} {R : Room} {s : State} {m : MethodId} {args : Array Value} {below : List Frame} {meth : Method} {c : Code} {H : Heap} {locs : List Loc} {cells slots : Nat} {Q : State → Prop} {ls : Array Slot} {w : WD} {oL oD b L i0 : Nat} {xs : Nat → Int32} {cL cD : ClassId} {x : Int64} {y : UInt64} (hsf : l.stackTraces = false) (hx : p.tables.exec = Jvm.exec) (hb : c.code = cL_law) (hml : c.maxLocals = 10) (hown : s.vm.findClass "ShareVaultLaw" = some m.cls) (hR : 13 ≤ R.frames ∧ 400 ≤ R.locals ∧ cells + 2 ≤ R.cells ∧ slots + 12 ≤ R.slots) (hi : i0 + 4 < L) (hLL : L ≤ 2560) (hl : lv_has ls 10 (lLoc w b oL oD i0)) {M : Mem} (hr : Rel n M) (hn : n < 512) (hI : lI w s H locs oL oD cL cD x y b L xs M) (kk : ∀ (H1 : Heap) (locs1 : List Loc) (ls1 : Array Slot) (x1 : Int64) (y1 : UInt64) (M2 : Mem), Rel (n + 1) M2 → lv_has ls1 10 (lLoc w b oL oD i0) → lI w s H1 locs1 oL oD cL cD x1 y1 b L xs M2 → W p l e R s m args below meth c H1 locs1 (cells + 2) (slots + 12) Q (F0 m 2998 ls1 [])) : W p l e R s m args below meth c H locs cells slots Q (F0 m 2211 ls []) := by
  obtain ⟨v, h1, r, M2, h2, hr2, rfl⟩ := pair_logCount hr
  exact l_c41 hsf hx hb hml hown hR hi hLL hl hI h1 h2 (fun H1 locs1 hI1 => W.widen (by omega) (by omega) (kk H1 locs1 ls x y M2 hr2 hl hI1))
theorem s_c42 {n : Nat} {p : Program} {l : Launch} {e : Env} {R : Room} {s : State} {m : MethodId} {args : Array Value} {below : List Frame} {meth : Method} {c : Code} {H : Heap} {locs : List Loc} {cells slots : Nat} {Q : State → Prop} {ls : Array Slot} {w : WD} {oL oD b L i0 : Nat} {xs : Nat → Int32} {cL cD : ClassId} {x : Int64} {y : UInt64} (hsf : l.stackTraces = false) (hx : p.tables.exec = Jvm.exec) (hb : c.code = cL_law) (hml : c.maxLocals = 10) (hown : s.vm.findClass "ShareVaultLaw" = some m.cls) (hR : 13 ≤ R.frames ∧ 400 ≤ R.locals ∧ cells + 2 ≤ R.cells ∧ slots + 12 ≤ R.slots) (hi : i0 + 4 < L) (hLL : L ≤ 2560) (hl : lv_has ls 10 (lLoc w b oL oD i0)) {M : Mem} (hr : Rel n M) (hn : n < 512) (hI : lI w s H locs oL oD cL cD x y b L xs M) (kk : ∀ (H1 : Heap) (locs1 : List Loc) (ls1 : Array Slot) (x1 : Int64) (y1 : UInt64) (M2 : Mem), Rel (n + 1) M2 → lv_has ls1 10 (lLoc w b oL oD i0) → lI w s H1 locs1 oL oD cL cD x1 y1 b L xs M2 → W p l e R s m args below meth c H1 locs1 (cells + 2) (slots + 12) Q (F0 m 2998 ls1 [])) : W p l e R s m args below meth c H locs cells slots Q (F0 m 2224 ls []) := by
  obtain ⟨o, h1, r, M2, h2, hr2, hag⟩ := pair_logHour hr (xs (i0 + 1))
  have hes : ∀ z : Nat, 1 ≤ (fun x => if x = 4 then 1 else 0) z → (z, nI ((fun x => if x = 4 then 1 else 0) z)) ∈ ([(4, 1)] : List (Nat × Int32)) := by
    intro z hz
    by_cases z4 : z = 4
    · subst z4; decide
    exact absurd hz (by simp [z4])
  obtain ⟨x1, hres, ha⟩ := ag_res (f := (fun v => v.toInt64)) (x := x) hag hes
  exact l_c42 hsf hx hb hml hown hR hi hLL hl hI h1 hres h2 rfl ha (fun H1 locs1 ls1 hl1 hI1 => W.widen (by omega) (by omega) (kk H1 locs1 ls1 x1 y M2 hr2 hl1 hI1))
theorem s_c43 {n : Nat} {p : Program} {l : Launch} {e : Env} {R : Room} {s : State} {m : MethodId} {args : Array Value} {below : List Frame} {meth : Method} {c : Code} {H : Heap} {locs : List Loc} {cells slots : Nat} {Q : State → Prop} {ls : Array Slot} {w : WD} {oL oD b L i0 : Nat} {xs : Nat → Int32} {cL cD : ClassId} {x : Int64} {y : UInt64} (hsf : l.stackTraces = false) (hx : p.tables.exec = Jvm.exec) (hb : c.code = cL_law) (hml : c.maxLocals = 10) (hown : s.vm.findClass "ShareVaultLaw" = some m.cls) (hR : 13 ≤ R.frames ∧ 400 ≤ R.locals ∧ cells + 2 ≤ R.cells ∧ slots + 12 ≤ R.slots) (hi : i0 + 4 < L) (hLL : L ≤ 2560) (hl : lv_has ls 10 (lLoc w b oL oD i0)) {M : Mem} (hr : Rel n M) (hn : n < 512) (hI : lI w s H locs oL oD cL cD x y b L xs M) (kk : ∀ (H1 : Heap) (locs1 : List Loc) (ls1 : Array Slot) (x1 : Int64) (y1 : UInt64) (M2 : Mem), Rel (n + 1) M2 → lv_has ls1 10 (lLoc w b oL oD i0) → lI w s H1 locs1 oL oD cL cD x1 y1 b L xs M2 → W p l e R s m args below meth c H1 locs1 (cells + 2) (slots + 12) Q (F0 m 2998 ls1 [])) : W p l e R s m args below meth c H locs cells slots Q (F0 m 2280 ls []) := by
  obtain ⟨o, h1, r, M2, h2, hr2, hag⟩ := pair_logKind hr (xs (i0 + 1))
  have hes : ∀ z : Nat, 1 ≤ (fun x => if x = 4 then 1 else 0) z → (z, nI ((fun x => if x = 4 then 1 else 0) z)) ∈ ([(4, 1)] : List (Nat × Int32)) := by
    intro z hz
    by_cases z4 : z = 4
    · subst z4; decide
    exact absurd hz (by simp [z4])
  obtain ⟨x1, hres, ha⟩ := ag_res (f := (fun v => v.toInt64)) (x := x) hag hes
  exact l_c43 hsf hx hb hml hown hR hi hLL hl hI h1 hres h2 rfl ha (fun H1 locs1 ls1 hl1 hI1 => W.widen (by omega) (by omega) (kk H1 locs1 ls1 x1 y M2 hr2 hl1 hI1))
theorem s_c44 {n : Nat} {p : Program} {l : Launch} {e : Env} {R : Room} {s : State} {m : MethodId} {args : Array Value} {below : List Frame} {meth : Method} {c : Code} {H : Heap} {locs : List Loc} {cells slots : Nat} {Q : State → Prop} {ls : Array Slot} {w : WD} {oL oD b L i0 : Nat} {xs : Nat → Int32} {cL cD : ClassId} {x : Int64} {y : UInt64} (hsf : l.stackTraces = false) (hx : p.tables.exec = Jvm.exec) (hb : c.code = cL_law) (hml : c.maxLocals = 10) (hown : s.vm.findClass "ShareVaultLaw" = some m.cls) (hR : 13 ≤ R.frames ∧ 400 ≤ R.locals ∧ cells + 2 ≤ R.cells ∧ slots + 12 ≤ R.slots) (hi : i0 + 4 < L) (hLL : L ≤ 2560) (hl : lv_has ls 10 (lLoc w b oL oD i0)) {M : Mem} (hr : Rel n M) (hn : n < 512) (hI : lI w s H locs oL oD cL cD x y b L xs M) (kk : ∀ (H1 : Heap) (locs1 : List Loc) (ls1 : Array Slot) (x1 : Int64) (y1 : UInt64) (M2 : Mem), Rel (n + 1) M2 → lv_has ls1 10 (lLoc w b oL oD i0) → lI w s H1 locs1 oL oD cL cD x1 y1 b L xs M2 → W p l e R s m args below meth c H1 locs1 (cells + 2) (slots + 12) Q (F0 m 2998 ls1 [])) : W p l e R s m args below meth c H locs cells slots Q (F0 m 2336 ls []) := by
  obtain ⟨o, h1, r, M2, h2, hr2, hag⟩ := pair_logDetail hr (xs (i0 + 1))
  have hes : ∀ z : Nat, 1 ≤ (fun x => if x = 4 then 1 else 0) z → (z, nI ((fun x => if x = 4 then 1 else 0) z)) ∈ ([(4, 1)] : List (Nat × Int32)) := by
    intro z hz
    by_cases z4 : z = 4
    · subst z4; decide
    exact absurd hz (by simp [z4])
  obtain ⟨x1, hres, ha⟩ := ag_res (f := (fun v => v.toInt64)) (x := x) hag hes
  exact l_c44 hsf hx hb hml hown hR hi hLL hl hI h1 hres h2 rfl ha (fun H1 locs1 ls1 hl1 hI1 => W.widen (by omega) (by omega) (kk H1 locs1 ls1 x1 y M2 hr2 hl1 hI1))
theorem s_c45 {n : Nat} {p : Program} {l : Launch} {e : Env} {R : Room} {s : State} {m : MethodId} {args : Array Value} {below : List Frame} {meth : Method} {c : Code} {H : Heap} {locs : List Loc} {cells slots : Nat} {Q : State → Prop} {ls : Array Slot} {w : WD} {oL oD b L i0 : Nat} {xs : Nat → Int32} {cL cD : ClassId} {x : Int64} {y : UInt64} (hsf : l.stackTraces = false) (hx : p.tables.exec = Jvm.exec) (hb : c.code = cL_law) (hml : c.maxLocals = 10) (hown : s.vm.findClass "ShareVaultLaw" = some m.cls) (hR : 13 ≤ R.frames ∧ 400 ≤ R.locals ∧ cells + 2 ≤ R.cells ∧ slots + 12 ≤ R.slots) (hi : i0 + 4 < L) (hLL : L ≤ 2560) (hl : lv_has ls 10 (lLoc w b oL oD i0)) {M : Mem} (hr : Rel n M) (hn : n < 512) (hI : lI w s H locs oL oD cL cD x y b L xs M) (kk : ∀ (H1 : Heap) (locs1 : List Loc) (ls1 : Array Slot) (x1 : Int64) (y1 : UInt64) (M2 : Mem), Rel (n + 1) M2 → lv_has ls1 10 (lLoc w b oL oD i0) → lI w s H1 locs1 oL oD cL cD x1 y1 b L xs M2 → W p l e R s m args below meth c H1 locs1 (cells + 2) (slots + 12) Q (F0 m 2998 ls1 [])) : W p l e R s m args below meth c H locs cells slots Q (F0 m 2392 ls []) := by
  obtain ⟨v, h1, r, M2, h2, hr2, rfl⟩ := pair_meanNoise hr
  exact l_c45 hsf hx hb hml hown hR hi hLL hl hI h1 h2 (fun H1 locs1 ls1 hl1 hI1 => W.widen (by omega) (by omega) (kk H1 locs1 ls1 x y M2 hr2 hl1 hI1))
theorem s_c46 {n : Nat} {p : Program} {l : Launch} {e : Env} {R : Room} {s : State} {m : MethodId} {args : Array Value} {below : List Frame} {meth : Method} {c : Code} {H : Heap} {locs : List Loc} {cells slots : Nat} {Q : State → Prop} {ls : Array Slot} {w : WD} {oL oD b L i0 : Nat} {xs : Nat → Int32} {cL cD : ClassId} {x : Int64} {y : UInt64} (hsf : l.stackTraces = false) (hx : p.tables.exec = Jvm.exec) (hb : c.code = cL_law) (hml : c.maxLocals = 10) (hown : s.vm.findClass "ShareVaultLaw" = some m.cls) (hR : 13 ≤ R.frames ∧ 400 ≤ R.locals ∧ cells + 2 ≤ R.cells ∧ slots + 12 ≤ R.slots) (hi : i0 + 4 < L) (hLL : L ≤ 2560) (hl : lv_has ls 10 (lLoc w b oL oD i0)) {M : Mem} (hr : Rel n M) (hn : n < 512) (hI : lI w s H locs oL oD cL cD x y b L xs M) (kk : ∀ (H1 : Heap) (locs1 : List Loc) (ls1 : Array Slot) (x1 : Int64) (y1 : UInt64) (M2 : Mem), Rel (n + 1) M2 → lv_has ls1 10 (lLoc w b oL oD i0) → lI w s H1 locs1 oL oD cL cD x1 y1 b L xs M2 → W p l e R s m args below meth c H1 locs1 (cells + 2) (slots + 12) Q (F0 m 2998 ls1 [])) : W p l e R s m args below meth c H locs cells slots Q (F0 m 2433 ls []) := by
  obtain ⟨o, h1, r, M2, h2, hr2, hag⟩ := pair_alarmShare hr hn (xs (i0 + 1))
  have hes : ∀ z : Nat, 1 ≤ (fun x => if x = 2 then 1 else if x = 6 then 2 else 0) z → (z, nI ((fun x => if x = 2 then 1 else if x = 6 then 2 else 0) z)) ∈ ([(2, 1), (6, 2)] : List (Nat × Int32)) := by
    intro z hz
    by_cases z2 : z = 2
    · subst z2; decide
    by_cases z6 : z = 6
    · subst z6; decide
    exact absurd hz (by simp [z2, z6])
  obtain ⟨y1, hres, ha⟩ := ag_resF (y := y) hag hes (fun v q => by subst q; exact ds_nan (ds_share h1))
  exact l_c46 hsf hx hb hml hown hR hi hLL hl hI h1 hres h2 rfl ha (fun H1 locs1 ls1 hl1 hI1 => W.widen (by omega) (by omega) (kk H1 locs1 ls1 x y1 M2 hr2 hl1 hI1))
theorem s_c47 {n : Nat} {p : Program} {l : Launch} {e : Env} {R : Room} {s : State} {m : MethodId} {args : Array Value} {below : List Frame} {meth : Method} {c : Code} {H : Heap} {locs : List Loc} {cells slots : Nat} {Q : State → Prop} {ls : Array Slot} {w : WD} {oL oD b L i0 : Nat} {xs : Nat → Int32} {cL cD : ClassId} {x : Int64} {y : UInt64} (hsf : l.stackTraces = false) (hx : p.tables.exec = Jvm.exec) (hb : c.code = cL_law) (hml : c.maxLocals = 10) (hown : s.vm.findClass "ShareVaultLaw" = some m.cls) (hR : 13 ≤ R.frames ∧ 400 ≤ R.locals ∧ cells + 2 ≤ R.cells ∧ slots + 12 ≤ R.slots) (hi : i0 + 4 < L) (hLL : L ≤ 2560) (hl : lv_has ls 10 (lLoc w b oL oD i0)) {M : Mem} (hr : Rel n M) (hn : n < 512) (hI : lI w s H locs oL oD cL cD x y b L xs M) (kk : ∀ (H1 : Heap) (locs1 : List Loc) (ls1 : Array Slot) (x1 : Int64) (y1 : UInt64) (M2 : Mem), Rel (n + 1) M2 → lv_has ls1 10 (lLoc w b oL oD i0) → lI w s H1 locs1 oL oD cL cD x1 y1 b L xs M2 → W p l e R s m args below meth c H1 locs1 (cells + 2) (slots + 12) Q (F0 m 2998 ls1 [])) : W p l e R s m args below meth c H locs cells slots Q (F0 m 2511 ls []) := by
  obtain ⟨v, M1, h1, r, M2, h2, hr2, rfl⟩ := pair_isConsistent hr hn
  exact l_c47 hsf hx hb hml hown hR hi hLL hl hI h1 h2 (fun H1 locs1 hI1 => W.widen (by omega) (by omega) (kk H1 locs1 ls x y M2 hr2 hl hI1))
theorem s_c48 {n : Nat} {p : Program} {l : Launch} {e : Env} {R : Room} {s : State} {m : MethodId} {args : Array Value} {below : List Frame} {meth : Method} {c : Code} {H : Heap} {locs : List Loc} {cells slots : Nat} {Q : State → Prop} {ls : Array Slot} {w : WD} {oL oD b L i0 : Nat} {xs : Nat → Int32} {cL cD : ClassId} {x : Int64} {y : UInt64} (hsf : l.stackTraces = false) (hx : p.tables.exec = Jvm.exec) (hb : c.code = cL_law) (hml : c.maxLocals = 10) (hown : s.vm.findClass "ShareVaultLaw" = some m.cls) (hR : 13 ≤ R.frames ∧ 400 ≤ R.locals ∧ cells + 2 ≤ R.cells ∧ slots + 12 ≤ R.slots) (hi : i0 + 4 < L) (hLL : L ≤ 2560) (hl : lv_has ls 10 (lLoc w b oL oD i0)) {M : Mem} (hr : Rel n M) (hn : n < 512) (hI : lI w s H locs oL oD cL cD x y b L xs M) (kk : ∀ (H1 : Heap) (locs1 : List Loc) (ls1 : Array Slot) (x1 : Int64) (y1 : UInt64) (M2 : Mem), Rel (n + 1) M2 → lv_has ls1 10 (lLoc w b oL oD i0) → lI w s H1 locs1 oL oD cL cD x1 y1 b L xs M2 → W p l e R s m args below meth c H1 locs1 (cells + 2) (slots + 12) Q (F0 m 2998 ls1 [])) : W p l e R s m args below meth c H locs cells slots Q (F0 m 2524 ls []) := by
  obtain ⟨o, h1, r, M2, h2, hr2, hag⟩ := pair_refusalReason hr
  have hes : ∀ z : Nat, 1 ≤ (fun x => if x = 4 then 1 else 0) z → (z, nI ((fun x => if x = 4 then 1 else 0) z)) ∈ ([(4, 1)] : List (Nat × Int32)) := by
    intro z hz
    by_cases z4 : z = 4
    · subst z4; decide
    exact absurd hz (by simp [z4])
  obtain ⟨x1, hres, ha⟩ := ag_res (f := (fun v => v.toInt64)) (x := x) hag hes
  exact l_c48 hsf hx hb hml hown hR hi hLL hl hI h1 hres h2 rfl ha (fun H1 locs1 ls1 hl1 hI1 => W.widen (by omega) (by omega) (kk H1 locs1 ls1 x1 y M2 hr2 hl1 hI1))
theorem s_c49 {n : Nat} {p : Program} {l : Launch} {e : Env} {R : Room} {s : State} {m : MethodId} {args : Array Value} {below : List Frame} {meth : Method} {c : Code} {H : Heap} {locs : List Loc} {cells slots : Nat} {Q : State → Prop} {ls : Array Slot} {w : WD} {oL oD b L i0 : Nat} {xs : Nat → Int32} {cL cD : ClassId} {x : Int64} {y : UInt64} (hsf : l.stackTraces = false) (hx : p.tables.exec = Jvm.exec) (hb : c.code = cL_law) (hml : c.maxLocals = 10) (hown : s.vm.findClass "ShareVaultLaw" = some m.cls) (hR : 13 ≤ R.frames ∧ 400 ≤ R.locals ∧ cells + 2 ≤ R.cells ∧ slots + 12 ≤ R.slots) (hi : i0 + 4 < L) (hLL : L ≤ 2560) (hl : lv_has ls 10 (lLoc w b oL oD i0)) {M : Mem} (hr : Rel n M) (hn : n < 512) (hI : lI w s H locs oL oD cL cD x y b L xs M) (kk : ∀ (H1 : Heap) (locs1 : List Loc) (ls1 : Array Slot) (x1 : Int64) (y1 : UInt64) (M2 : Mem), Rel (n + 1) M2 → lv_has ls1 10 (lLoc w b oL oD i0) → lI w s H1 locs1 oL oD cL cD x1 y1 b L xs M2 → W p l e R s m args below meth c H1 locs1 (cells + 2) (slots + 12) Q (F0 m 2998 ls1 [])) : W p l e R s m args below meth c H locs cells slots Q (F0 m 2568 ls []) := by
  obtain ⟨o, h1, r, M2, h2, hr2, hag⟩ := pair_refusalDetail hr
  have hes : ∀ z : Nat, 1 ≤ (fun x => if x = 4 then 1 else 0) z → (z, nI ((fun x => if x = 4 then 1 else 0) z)) ∈ ([(4, 1)] : List (Nat × Int32)) := by
    intro z hz
    by_cases z4 : z = 4
    · subst z4; decide
    exact absurd hz (by simp [z4])
  obtain ⟨x1, hres, ha⟩ := ag_res (f := (fun v => v.toInt64)) (x := x) hag hes
  exact l_c49 hsf hx hb hml hown hR hi hLL hl hI h1 hres h2 rfl ha (fun H1 locs1 ls1 hl1 hI1 => W.widen (by omega) (by omega) (kk H1 locs1 ls1 x1 y M2 hr2 hl1 hI1))
theorem s_c50 {n : Nat} {p : Program} {l : Launch} {e : Env} {R : Room} {s : State} {m : MethodId} {args : Array Value} {below : List Frame} {meth : Method} {c : Code} {H : Heap} {locs : List Loc} {cells slots : Nat} {Q : State → Prop} {ls : Array Slot} {w : WD} {oL oD b L i0 : Nat} {xs : Nat → Int32} {cL cD : ClassId} {x : Int64} {y : UInt64} (hsf : l.stackTraces = false) (hx : p.tables.exec = Jvm.exec) (hb : c.code = cL_law) (hml : c.maxLocals = 10) (hown : s.vm.findClass "ShareVaultLaw" = some m.cls) (hR : 13 ≤ R.frames ∧ 400 ≤ R.locals ∧ cells + 2 ≤ R.cells ∧ slots + 12 ≤ R.slots) (hi : i0 + 4 < L) (hLL : L ≤ 2560) (hl : lv_has ls 10 (lLoc w b oL oD i0)) {M : Mem} (hr : Rel n M) (hn : n < 512) (hI : lI w s H locs oL oD cL cD x y b L xs M) (kk : ∀ (H1 : Heap) (locs1 : List Loc) (ls1 : Array Slot) (x1 : Int64) (y1 : UInt64) (M2 : Mem), Rel (n + 1) M2 → lv_has ls1 10 (lLoc w b oL oD i0) → lI w s H1 locs1 oL oD cL cD x1 y1 b L xs M2 → W p l e R s m args below meth c H1 locs1 (cells + 2) (slots + 12) Q (F0 m 2998 ls1 [])) : W p l e R s m args below meth c H locs cells slots Q (F0 m 2612 ls []) := by
  obtain ⟨o, h1, r, M2, h2, hr2, hag⟩ := pair_refusalCause hr
  have hes : ∀ z : Nat, 1 ≤ (fun x => if x = 4 then 1 else 0) z → (z, nI ((fun x => if x = 4 then 1 else 0) z)) ∈ ([(4, 1)] : List (Nat × Int32)) := by
    intro z hz
    by_cases z4 : z = 4
    · subst z4; decide
    exact absurd hz (by simp [z4])
  obtain ⟨x1, hres, ha⟩ := ag_res (f := (fun v => v.toInt64)) (x := x) hag hes
  exact l_c50 hsf hx hb hml hown hR hi hLL hl hI h1 hres h2 rfl ha (fun H1 locs1 ls1 hl1 hI1 => W.widen (by omega) (by omega) (kk H1 locs1 ls1 x1 y M2 hr2 hl1 hI1))
theorem s_c51 {n : Nat} {p : Program} {l : Launch} {e : Env} {R : Room} {s : State} {m : MethodId} {args : Array Value} {below : List Frame} {meth : Method} {c : Code} {H : Heap} {locs : List Loc} {cells slots : Nat} {Q : State → Prop} {ls : Array Slot} {w : WD} {oL oD b L i0 : Nat} {xs : Nat → Int32} {cL cD : ClassId} {x : Int64} {y : UInt64} (hsf : l.stackTraces = false) (hx : p.tables.exec = Jvm.exec) (hb : c.code = cL_law) (hml : c.maxLocals = 10) (hown : s.vm.findClass "ShareVaultLaw" = some m.cls) (hR : 13 ≤ R.frames ∧ 400 ≤ R.locals ∧ cells + 2 ≤ R.cells ∧ slots + 12 ≤ R.slots) (hi : i0 + 4 < L) (hLL : L ≤ 2560) (hl : lv_has ls 10 (lLoc w b oL oD i0)) {M : Mem} (hr : Rel n M) (hn : n < 512) (hI : lI w s H locs oL oD cL cD x y b L xs M) (kk : ∀ (H1 : Heap) (locs1 : List Loc) (ls1 : Array Slot) (x1 : Int64) (y1 : UInt64) (M2 : Mem), Rel (n + 1) M2 → lv_has ls1 10 (lLoc w b oL oD i0) → lI w s H1 locs1 oL oD cL cD x1 y1 b L xs M2 → W p l e R s m args below meth c H1 locs1 (cells + 2) (slots + 12) Q (F0 m 2998 ls1 [])) : W p l e R s m args below meth c H locs cells slots Q (F0 m 2656 ls []) := by
  obtain ⟨b9, hb9, eb9⟩ := l_b16 (xs (i0 + 1))
  obtain ⟨o, M1, h1, r, M2, h2, hr2, hag⟩ := pair_feed hr hb9
  rw [← eb9] at h1 h2
  have hes : ∀ z : Nat, 1 ≤ (fun x => if x = 5 then 1 else 0) z → (z, nI ((fun x => if x = 5 then 1 else 0) z)) ∈ ([(5, 1)] : List (Nat × Int32)) := by
    intro z hz
    by_cases z5 : z = 5
    · subst z5; decide
    exact absurd hz (by simp [z5])
  obtain ⟨x1, hres, ha⟩ := ag_res (f := (fun v => v.toInt64)) (x := x) hag hes
  exact l_c51 hsf hx hb hml hown hR hi hLL hl hI h1 hres h2 rfl ha (fun H1 locs1 ls1 hl1 hI1 => W.widen (by omega) (by omega) (kk H1 locs1 ls1 x1 y M2 hr2 hl1 hI1))
theorem s_c52 {n : Nat} {p : Program} {l : Launch} {e : Env} {R : Room} {s : State} {m : MethodId} {args : Array Value} {below : List Frame} {meth : Method} {c : Code} {H : Heap} {locs : List Loc} {cells slots : Nat} {Q : State → Prop} {ls : Array Slot} {w : WD} {oL oD b L i0 : Nat} {xs : Nat → Int32} {cL cD : ClassId} {x : Int64} {y : UInt64} (hsf : l.stackTraces = false) (hx : p.tables.exec = Jvm.exec) (hb : c.code = cL_law) (hml : c.maxLocals = 10) (hown : s.vm.findClass "ShareVaultLaw" = some m.cls) (hR : 13 ≤ R.frames ∧ 400 ≤ R.locals ∧ cells + 2 ≤ R.cells ∧ slots + 12 ≤ R.slots) (hi : i0 + 4 < L) (hLL : L ≤ 2560) (hl : lv_has ls 10 (lLoc w b oL oD i0)) {M : Mem} (hr : Rel n M) (hn : n < 512) (hI : lI w s H locs oL oD cL cD x y b L xs M) (kk : ∀ (H1 : Heap) (locs1 : List Loc) (ls1 : Array Slot) (x1 : Int64) (y1 : UInt64) (M2 : Mem), Rel (n + 1) M2 → lv_has ls1 10 (lLoc w b oL oD i0) → lI w s H1 locs1 oL oD cL cD x1 y1 b L xs M2 → W p l e R s m args below meth c H1 locs1 (cells + 2) (slots + 12) Q (F0 m 2998 ls1 [])) : W p l e R s m args below meth c H locs cells slots Q (F0 m 2714 ls []) := by
  obtain ⟨o, M1, h1, r, M2, h2, hr2, hag⟩ := pair_runCommands hr hn
  have hes : ∀ z : Nat, 1 ≤ (fun x => if x = 2 then 1 else if x = 3 then 2 else 0) z → (z, nI ((fun x => if x = 2 then 1 else if x = 3 then 2 else 0) z)) ∈ ([(2, 1), (3, 2)] : List (Nat × Int32)) := by
    intro z hz
    by_cases z2 : z = 2
    · subst z2; decide
    by_cases z3 : z = 3
    · subst z3; decide
    exact absurd hz (by simp [z2, z3])
  obtain ⟨x1, hres, ha⟩ := ag_res (f := (fun v => v.toInt64)) (x := x) hag hes
  exact l_c52 hsf hx hb hml hown hR hi hLL hl hI h1 hres h2 rfl ha (fun H1 locs1 ls1 hl1 hI1 => W.widen (by omega) (by omega) (kk H1 locs1 ls1 x1 y M2 hr2 hl1 hI1))
theorem s_c53 {n : Nat} {p : Program} {l : Launch} {e : Env} {R : Room} {s : State} {m : MethodId} {args : Array Value} {below : List Frame} {meth : Method} {c : Code} {H : Heap} {locs : List Loc} {cells slots : Nat} {Q : State → Prop} {ls : Array Slot} {w : WD} {oL oD b L i0 : Nat} {xs : Nat → Int32} {cL cD : ClassId} {x : Int64} {y : UInt64} (hsf : l.stackTraces = false) (hx : p.tables.exec = Jvm.exec) (hb : c.code = cL_law) (hml : c.maxLocals = 10) (hown : s.vm.findClass "ShareVaultLaw" = some m.cls) (hR : 13 ≤ R.frames ∧ 400 ≤ R.locals ∧ cells + 2 ≤ R.cells ∧ slots + 12 ≤ R.slots) (hi : i0 + 4 < L) (hLL : L ≤ 2560) (hl : lv_has ls 10 (lLoc w b oL oD i0)) {M : Mem} (hr : Rel n M) (hn : n < 512) (hI : lI w s H locs oL oD cL cD x y b L xs M) (kk : ∀ (H1 : Heap) (locs1 : List Loc) (ls1 : Array Slot) (x1 : Int64) (y1 : UInt64) (M2 : Mem), Rel (n + 1) M2 → lv_has ls1 10 (lLoc w b oL oD i0) → lI w s H1 locs1 oL oD cL cD x1 y1 b L xs M2 → W p l e R s m args below meth c H1 locs1 (cells + 2) (slots + 12) Q (F0 m 2998 ls1 [])) : W p l e R s m args below meth c H locs cells slots Q (F0 m 2758 ls []) := by
  obtain ⟨o, h1, r, M2, h2, hr2, hag⟩ := pair_errorPosition hr
  have hes : ∀ z : Nat, 1 ≤ (fun x => if x = 4 then 1 else 0) z → (z, nI ((fun x => if x = 4 then 1 else 0) z)) ∈ ([(4, 1)] : List (Nat × Int32)) := by
    intro z hz
    by_cases z4 : z = 4
    · subst z4; decide
    exact absurd hz (by simp [z4])
  obtain ⟨x1, hres, ha⟩ := ag_res (f := (fun v => v.toInt64)) (x := x) hag hes
  exact l_c53 hsf hx hb hml hown hR hi hLL hl hI h1 hres h2 rfl ha (fun H1 locs1 ls1 hl1 hI1 => W.widen (by omega) (by omega) (kk H1 locs1 ls1 x1 y M2 hr2 hl1 hI1))
theorem s_c54 {n : Nat} {p : Program} {l : Launch} {e : Env} {R : Room} {s : State} {m : MethodId} {args : Array Value} {below : List Frame} {meth : Method} {c : Code} {H : Heap} {locs : List Loc} {cells slots : Nat} {Q : State → Prop} {ls : Array Slot} {w : WD} {oL oD b L i0 : Nat} {xs : Nat → Int32} {cL cD : ClassId} {x : Int64} {y : UInt64} (hsf : l.stackTraces = false) (hx : p.tables.exec = Jvm.exec) (hb : c.code = cL_law) (hml : c.maxLocals = 10) (hown : s.vm.findClass "ShareVaultLaw" = some m.cls) (hR : 13 ≤ R.frames ∧ 400 ≤ R.locals ∧ cells + 2 ≤ R.cells ∧ slots + 12 ≤ R.slots) (hi : i0 + 4 < L) (hLL : L ≤ 2560) (hl : lv_has ls 10 (lLoc w b oL oD i0)) {M : Mem} (hr : Rel n M) (hn : n < 512) (hI : lI w s H locs oL oD cL cD x y b L xs M) (kk : ∀ (H1 : Heap) (locs1 : List Loc) (ls1 : Array Slot) (x1 : Int64) (y1 : UInt64) (M2 : Mem), Rel (n + 1) M2 → lv_has ls1 10 (lLoc w b oL oD i0) → lI w s H1 locs1 oL oD cL cD x1 y1 b L xs M2 → W p l e R s m args below meth c H1 locs1 (cells + 2) (slots + 12) Q (F0 m 2998 ls1 [])) : W p l e R s m args below meth c H locs cells slots Q (F0 m 2802 ls []) := by
  obtain ⟨v, M1, h1, r, M2, h2, hr2, rfl⟩ := pair_writeZones hr
  exact l_c54 hsf hx hb hml hown hR hi hLL hl hI h1 h2 (fun H1 locs1 hI1 => W.widen (by omega) (by omega) (kk H1 locs1 ls x y M2 hr2 hl hI1))
theorem s_c55 {n : Nat} {p : Program} {l : Launch} {e : Env} {R : Room} {s : State} {m : MethodId} {args : Array Value} {below : List Frame} {meth : Method} {c : Code} {H : Heap} {locs : List Loc} {cells slots : Nat} {Q : State → Prop} {ls : Array Slot} {w : WD} {oL oD b L i0 : Nat} {xs : Nat → Int32} {cL cD : ClassId} {x : Int64} {y : UInt64} (hsf : l.stackTraces = false) (hx : p.tables.exec = Jvm.exec) (hb : c.code = cL_law) (hml : c.maxLocals = 10) (hown : s.vm.findClass "ShareVaultLaw" = some m.cls) (hR : 13 ≤ R.frames ∧ 400 ≤ R.locals ∧ cells + 2 ≤ R.cells ∧ slots + 12 ≤ R.slots) (hi : i0 + 4 < L) (hLL : L ≤ 2560) (hl : lv_has ls 10 (lLoc w b oL oD i0)) {M : Mem} (hr : Rel n M) (hn : n < 512) (hI : lI w s H locs oL oD cL cD x y b L xs M) (kk : ∀ (H1 : Heap) (locs1 : List Loc) (ls1 : Array Slot) (x1 : Int64) (y1 : UInt64) (M2 : Mem), Rel (n + 1) M2 → lv_has ls1 10 (lLoc w b oL oD i0) → lI w s H1 locs1 oL oD cL cD x1 y1 b L xs M2 → W p l e R s m args below meth c H1 locs1 (cells + 2) (slots + 12) Q (F0 m 2998 ls1 [])) : W p l e R s m args below meth c H locs cells slots Q (F0 m 2815 ls []) := by
  obtain ⟨v, M1, h1, r, M2, h2, hr2, rfl⟩ := pair_writeLog hr hn
  exact l_c55 hsf hx hb hml hown hR hi hLL hl hI h1 h2 (fun H1 locs1 hI1 => W.widen (by omega) (by omega) (kk H1 locs1 ls x y M2 hr2 hl hI1))
theorem s_c56 {n : Nat} {p : Program} {l : Launch} {e : Env} {R : Room} {s : State} {m : MethodId} {args : Array Value} {below : List Frame} {meth : Method} {c : Code} {H : Heap} {locs : List Loc} {cells slots : Nat} {Q : State → Prop} {ls : Array Slot} {w : WD} {oL oD b L i0 : Nat} {xs : Nat → Int32} {cL cD : ClassId} {x : Int64} {y : UInt64} (hsf : l.stackTraces = false) (hx : p.tables.exec = Jvm.exec) (hb : c.code = cL_law) (hml : c.maxLocals = 10) (hown : s.vm.findClass "ShareVaultLaw" = some m.cls) (hR : 13 ≤ R.frames ∧ 400 ≤ R.locals ∧ cells + 2 ≤ R.cells ∧ slots + 12 ≤ R.slots) (hi : i0 + 4 < L) (hLL : L ≤ 2560) (hl : lv_has ls 10 (lLoc w b oL oD i0)) {M : Mem} (hr : Rel n M) (hn : n < 512) (hI : lI w s H locs oL oD cL cD x y b L xs M) (kk : ∀ (H1 : Heap) (locs1 : List Loc) (ls1 : Array Slot) (x1 : Int64) (y1 : UInt64) (M2 : Mem), Rel (n + 1) M2 → lv_has ls1 10 (lLoc w b oL oD i0) → lI w s H1 locs1 oL oD cL cD x1 y1 b L xs M2 → W p l e R s m args below meth c H1 locs1 (cells + 2) (slots + 12) Q (F0 m 2998 ls1 [])) : W p l e R s m args below meth c H locs cells slots Q (F0 m 2828 ls []) := by
  obtain ⟨o, h1, r, M2, h2, hr2, hag⟩ := pair_outputChar hr (xs (i0 + 1))
  have hes : ∀ z : Nat, 1 ≤ (fun x => if x = 1 then 1 else 0) z → (z, nI ((fun x => if x = 1 then 1 else 0) z)) ∈ ([(1, 1)] : List (Nat × Int32)) := by
    intro z hz
    by_cases z1 : z = 1
    · subst z1; decide
    exact absurd hz (by simp [z1])
  obtain ⟨x1, hres, ha⟩ := ag_res (f := (fun v => v.toInt64)) (x := x) hag hes
  exact l_c56 hsf hx hb hml hown hR hi hLL hl hI h1 hres h2 rfl ha (fun H1 locs1 ls1 hl1 hI1 => W.widen (by omega) (by omega) (kk H1 locs1 ls1 x1 y M2 hr2 hl1 hI1))
theorem s_c57 {n : Nat} {p : Program} {l : Launch} {e : Env} {R : Room} {s : State} {m : MethodId} {args : Array Value} {below : List Frame} {meth : Method} {c : Code} {H : Heap} {locs : List Loc} {cells slots : Nat} {Q : State → Prop} {ls : Array Slot} {w : WD} {oL oD b L i0 : Nat} {xs : Nat → Int32} {cL cD : ClassId} {x : Int64} {y : UInt64} (hsf : l.stackTraces = false) (hx : p.tables.exec = Jvm.exec) (hb : c.code = cL_law) (hml : c.maxLocals = 10) (hown : s.vm.findClass "ShareVaultLaw" = some m.cls) (hR : 13 ≤ R.frames ∧ 400 ≤ R.locals ∧ cells + 2 ≤ R.cells ∧ slots + 12 ≤ R.slots) (hi : i0 + 4 < L) (hLL : L ≤ 2560) (hl : lv_has ls 10 (lLoc w b oL oD i0)) {M : Mem} (hr : Rel n M) (hn : n < 512) (hI : lI w s H locs oL oD cL cD x y b L xs M) (kk : ∀ (H1 : Heap) (locs1 : List Loc) (ls1 : Array Slot) (x1 : Int64) (y1 : UInt64) (M2 : Mem), Rel (n + 1) M2 → lv_has ls1 10 (lLoc w b oL oD i0) → lI w s H1 locs1 oL oD cL cD x1 y1 b L xs M2 → W p l e R s m args below meth c H1 locs1 (cells + 2) (slots + 12) Q (F0 m 2998 ls1 [])) : W p l e R s m args below meth c H locs cells slots Q (F0 m 2884 ls []) := by
  obtain ⟨v, h1, r, M2, h2, hr2, rfl⟩ := pair_undoCount hr
  exact l_c57 hsf hx hb hml hown hR hi hLL hl hI h1 h2 (fun H1 locs1 hI1 => W.widen (by omega) (by omega) (kk H1 locs1 ls x y M2 hr2 hl hI1))
theorem s_c58 {n : Nat} {p : Program} {l : Launch} {e : Env} {R : Room} {s : State} {m : MethodId} {args : Array Value} {below : List Frame} {meth : Method} {c : Code} {H : Heap} {locs : List Loc} {cells slots : Nat} {Q : State → Prop} {ls : Array Slot} {w : WD} {oL oD b L i0 : Nat} {xs : Nat → Int32} {cL cD : ClassId} {x : Int64} {y : UInt64} (hsf : l.stackTraces = false) (hx : p.tables.exec = Jvm.exec) (hb : c.code = cL_law) (hml : c.maxLocals = 10) (hown : s.vm.findClass "ShareVaultLaw" = some m.cls) (hR : 13 ≤ R.frames ∧ 400 ≤ R.locals ∧ cells + 2 ≤ R.cells ∧ slots + 12 ≤ R.slots) (hi : i0 + 4 < L) (hLL : L ≤ 2560) (hl : lv_has ls 10 (lLoc w b oL oD i0)) {M : Mem} (hr : Rel n M) (hn : n < 512) (hI : lI w s H locs oL oD cL cD x y b L xs M) (kk : ∀ (H1 : Heap) (locs1 : List Loc) (ls1 : Array Slot) (x1 : Int64) (y1 : UInt64) (M2 : Mem), Rel (n + 1) M2 → lv_has ls1 10 (lLoc w b oL oD i0) → lI w s H1 locs1 oL oD cL cD x1 y1 b L xs M2 → W p l e R s m args below meth c H1 locs1 (cells + 2) (slots + 12) Q (F0 m 2998 ls1 [])) : W p l e R s m args below meth c H locs cells slots Q (F0 m 2897 ls []) := by
  obtain ⟨o, M1, h1, r, M2, h2, hr2, hag⟩ := pair_undo hr
  have hes : ∀ z : Nat, 1 ≤ (fun x => if x = 5 then 1 else 0) z → (z, nI ((fun x => if x = 5 then 1 else 0) z)) ∈ ([(5, 1)] : List (Nat × Int32)) := by
    intro z hz
    by_cases z5 : z = 5
    · subst z5; decide
    exact absurd hz (by simp [z5])
  obtain ⟨x1, hres, ha⟩ := ag_res (f := (fun v => v.toInt64)) (x := x) hag hes
  exact l_c58 hsf hx hb hml hown hR hi hLL hl hI h1 hres h2 rfl ha (fun H1 locs1 ls1 hl1 hI1 => W.widen (by omega) (by omega) (kk H1 locs1 ls1 x1 y M2 hr2 hl1 hI1))
theorem s_c59 {n : Nat} {p : Program} {l : Launch} {e : Env} {R : Room} {s : State} {m : MethodId} {args : Array Value} {below : List Frame} {meth : Method} {c : Code} {H : Heap} {locs : List Loc} {cells slots : Nat} {Q : State → Prop} {ls : Array Slot} {w : WD} {oL oD b L i0 : Nat} {xs : Nat → Int32} {cL cD : ClassId} {x : Int64} {y : UInt64} (hsf : l.stackTraces = false) (hx : p.tables.exec = Jvm.exec) (hb : c.code = cL_law) (hml : c.maxLocals = 10) (hown : s.vm.findClass "ShareVaultLaw" = some m.cls) (hR : 13 ≤ R.frames ∧ 400 ≤ R.locals ∧ cells + 2 ≤ R.cells ∧ slots + 12 ≤ R.slots) (hi : i0 + 4 < L) (hLL : L ≤ 2560) (hl : lv_has ls 10 (lLoc w b oL oD i0)) {M : Mem} (hr : Rel n M) (hn : n < 512) (hI : lI w s H locs oL oD cL cD x y b L xs M) (kk : ∀ (H1 : Heap) (locs1 : List Loc) (ls1 : Array Slot) (x1 : Int64) (y1 : UInt64) (M2 : Mem), Rel (n + 1) M2 → lv_has ls1 10 (lLoc w b oL oD i0) → lI w s H1 locs1 oL oD cL cD x1 y1 b L xs M2 → W p l e R s m args below meth c H1 locs1 (cells + 2) (slots + 12) Q (F0 m 2998 ls1 [])) : W p l e R s m args below meth c H locs cells slots Q (F0 m 2941 ls []) := by
  obtain ⟨v, M1, h1, r, M2, h2, hr2, rfl⟩ := pair_save hr
  exact l_c59 hsf hx hb hml hown hR hi hLL hl hI h1 h2 (fun H1 locs1 hI1 => W.widen (by omega) (by omega) (kk H1 locs1 ls x y M2 hr2 hl hI1))
theorem s_c60 {n : Nat} {p : Program} {l : Launch} {e : Env} {R : Room} {s : State} {m : MethodId} {args : Array Value} {below : List Frame} {meth : Method} {c : Code} {H : Heap} {locs : List Loc} {cells slots : Nat} {Q : State → Prop} {ls : Array Slot} {w : WD} {oL oD b L i0 : Nat} {xs : Nat → Int32} {cL cD : ClassId} {x : Int64} {y : UInt64} (hsf : l.stackTraces = false) (hx : p.tables.exec = Jvm.exec) (hb : c.code = cL_law) (hml : c.maxLocals = 10) (hown : s.vm.findClass "ShareVaultLaw" = some m.cls) (hR : 13 ≤ R.frames ∧ 400 ≤ R.locals ∧ cells + 2 ≤ R.cells ∧ slots + 12 ≤ R.slots) (hi : i0 + 4 < L) (hLL : L ≤ 2560) (hl : lv_has ls 10 (lLoc w b oL oD i0)) {M : Mem} (hr : Rel n M) (hn : n < 512) (hI : lI w s H locs oL oD cL cD x y b L xs M) (kk : ∀ (H1 : Heap) (locs1 : List Loc) (ls1 : Array Slot) (x1 : Int64) (y1 : UInt64) (M2 : Mem), Rel (n + 1) M2 → lv_has ls1 10 (lLoc w b oL oD i0) → lI w s H1 locs1 oL oD cL cD x1 y1 b L xs M2 → W p l e R s m args below meth c H1 locs1 (cells + 2) (slots + 12) Q (F0 m 2998 ls1 [])) : W p l e R s m args below meth c H locs cells slots Q (F0 m 2954 ls []) := by
  obtain ⟨o, M1, h1, r, M2, h2, hr2, hag⟩ := pair_restore hr
  have hes : ∀ z : Nat, 1 ≤ (fun x => if x = 5 then 1 else 0) z → (z, nI ((fun x => if x = 5 then 1 else 0) z)) ∈ ([(5, 1)] : List (Nat × Int32)) := by
    intro z hz
    by_cases z5 : z = 5
    · subst z5; decide
    exact absurd hz (by simp [z5])
  obtain ⟨x1, hres, ha⟩ := ag_res (f := (fun v => v.toInt64)) (x := x) hag hes
  exact l_c60 hsf hx hb hml hown hR hi hLL hl hI h1 hres h2 rfl ha (fun H1 locs1 ls1 hl1 hI1 => W.widen (by omega) (by omega) (kk H1 locs1 ls1 x1 y M2 hr2 hl1 hI1))
