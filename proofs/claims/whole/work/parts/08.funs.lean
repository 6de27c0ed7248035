def f_X3_copyFrom (g : Nat) (g1 : Nat) (M : Mem) : Option (Unit × Mem) := (mnz (M g1 5 0) (mlet (mup M g 5 0 (M g1 5 0)) fun M1 => (mlet (mup M1 g 5 1 (M1 g1 5 1)) fun M2 => (mlet (mup M2 g 5 2 (M2 g1 5 2)) fun M3 => (mlet (mup M3 g 5 3 (M3 g1 5 3)) fun M4 => (some ((), M4)))))))
def f_X3_shutAnew (g : Nat) (M : Mem) : Option (Unit × Mem) := (mlet (mup M g 5 0 (0 : Int32)) fun M1 => (mlet (mup M1 g 5 1 (0 : Int32)) fun M2 => (mlet (mup M2 g 5 2 (0 : Int32)) fun M3 => (some ((), M3)))))
def f_X3_swingOpen (g : Nat) (M : Mem) : Option (Unit × Mem) := (mlet (mup M g 5 0 (1 : Int32)) fun M1 => (mlet (mup M1 g 5 2 (0 : Int32)) fun M2 => (mlet (mup M2 g 5 3 ((M2 g 5 3) + (1 : Int32))) fun M3 => (some ((), M3)))))
def f_X3_countFailure (g : Nat) (M : Mem) : Option (Unit × Mem) := (mlet (mup M g 5 2 ((M g 5 2) + (1 : Int32))) fun M1 => (if (M1 g 5 2) = (3 : Int32) then (mlet (mup M1 g 5 2 (0 : Int32)) fun M3 => (mlet (mup M3 g 5 1 (6 : Int32)) fun M4 => (some ((), M4)))) else (some ((), M1))))
def f_X3_passOneHour (g : Nat) (M : Mem) : Option (Unit × Mem) := (if (M g 5 1) ≤ 0 then (some ((), M)) else (mlet (mup M g 5 1 ((M g 5 1) - (1 : Int32))) fun M2 => (some ((), M2))))
def f_X6_copyFrom (g : Nat) (g1 : Nat) (M : Mem) : Option (Unit × Mem) := (mlet (mup M g 1 0 (M g1 1 0)) fun M1 => (mcpy .int M1 g1 2 8 (0 : Int32) g 2 8 (0 : Int32) (8 : Int32) fun M2 => (mnz (M2 g1 1 2) (mlet (mup M2 g 1 2 (M2 g1 1 2)) fun M3 => (mlet (mup M3 g 1 3 (M3 g1 1 3)) fun M4 => (mcpy .int M4 g1 3 3 (0 : Int32) g 3 3 (0 : Int32) (3 : Int32) fun M5 => (mlet (mup M5 g 1 5 (M5 g1 1 5)) fun M6 => (mcpy .int M6 g1 4 8 (0 : Int32) g 4 8 (0 : Int32) (8 : Int32) fun M7 => (some ((), M7))))))))))
def f_X6_positionOf (a1 : Int32) (M : Mem) : Option Int32 := (some (a1 + (1 : Int32)))
def f_X6_isResidue (a1 : Int32) (M : Mem) : Option Int32 := (if a1 < 0 then (some (0 : Int32)) else (if (97 : Int32) ≤ a1 then (some (0 : Int32)) else (some (1 : Int32))))
def f_X6_hasHolder (g : Nat) (a1 : Int32) (M : Mem) : Option Int32 := (if a1 < 0 then (some (0 : Int32)) else (if (M g 1 0) ≤ a1 then (some (0 : Int32)) else (some (1 : Int32))))
def f_X6_areEnough (g : Nat) (M : Mem) : Option Int32 := (if (M g 1 2) = 0 then (some (0 : Int32)) else (if (M g 1 5) < (M g 1 3) then (some (0 : Int32)) else (some (1 : Int32))))
def f_X6_valueOn_L7 (ga1 : Nat) (ia1 : Nat) (a2 : Int32) (M : Mem) : Nat → Int32 → Int32 → (Int32 → Option Int32) → Option Int32
  | 0, _, _, _ => none
  | n + 1, x2, x3, kk => (if x3 < 0 then (kk x2) else (mix x3 3 (mlet (mrem ((x2 * a2) + (M ga1 ia1 x3.toNatClampNeg)) (97 : Int32)) fun x5 => (mlet (x3 + (-1)) fun x6 => (f_X6_valueOn_L7 ga1 ia1 a2 M n x5 x6 kk)))))
def f_X6_valueOn (ga1 ia1 : Nat) (a2 : Int32) (M : Mem) : Option Int32 := (mlet ((3 : Int32) - (1 : Int32)) fun x1 => (f_X6_valueOn_L7 ga1 ia1 a2 M 1000 (0 : Int32) x1 (fun x7 => (some x7))))
def f_X6_correctShare (g : Nat) (a1 : Int32) (M : Mem) : Option Int32 := (mbp (f_X6_positionOf a1 M) fun r1 => (mbp (f_X6_valueOn g 3 r1 M) fun r2 => (some r2)))
def f_X6_placeOf_L2 (g : Nat) (a1 : Int32) (M : Mem) : Nat → Int32 → (Unit → Option Int32) → Option Int32
  | 0, _, _ => none
  | n + 1, x1, kk => (if (M g 1 5) ≤ x1 then (kk ()) else (mix x1 8 (if (M g 4 x1.toNatClampNeg) = a1 then (some x1) else (mlet (x1 + 1) fun x4 => (f_X6_placeOf_L2 g a1 M n x4 kk)))))
def f_X6_placeOf (g : Nat) (a1 : Int32) (M : Mem) : Option Int32 := (f_X6_placeOf_L2 g a1 M 1000 (0 : Int32) (fun _ => (some (-1 : Int32))))
def f_X6_join (g : Nat) (M : Mem) : Option (Int32 × Mem) := (mlet (M g 1 0) fun x1 => (mlet (mup M g 1 0 ((M g 1 0) + (1 : Int32))) fun M2 => (mbp (f_X6_correctShare g x1 M2) fun r3 => (mix x1 8 (mlet (mup M2 g 2 x1.toNatClampNeg r3) fun M4 => (some (x1, M4)))))))
def f_X6_sealWith_L60 (g : Nat) : Nat → Int32 → Mem → (Mem → Option (Unit × Mem)) → Option (Unit × Mem)
  | 0, _, _, _ => none
  | n + 1, x13, M14, kk => (if (M14 g 1 0) ≤ x13 then (kk M14) else (mbp (f_X6_correctShare g x13 M14) fun r16 => (mix x13 8 (mlet (mup M14 g 2 x13.toNatClampNeg r16) fun M17 => (mlet (x13 + 1) fun x18 => (f_X6_sealWith_L60 g n x18 M17 kk))))))
def f_X6_sealWith (g : Nat) (a1 : Int32) (a2 : Int32) (a3 : Int32) (a4 : Int32) (M : Mem) : Option (Unit × Mem) := (mlet (mup M g 1 2 (1 : Int32)) fun M1 => (mlet (mup M1 g 1 3 a4) fun M2 => (mix (0 : Int32) 3 (mlet (mup M2 g 3 (0 : Int32).toNatClampNeg a1) fun M3 => (mlet (fun (x5 : Int32) => (mix (1 : Int32) 3 (mlet (mup M3 g 3 (1 : Int32).toNatClampNeg x5) fun M7 => (mlet (fun (x9 : Int32) => (mix (2 : Int32) 3 (mlet (mup M7 g 3 (2 : Int32).toNatClampNeg x9) fun M11 => (mlet (mup M11 g 1 5 (0 : Int32)) fun M12 => (f_X6_sealWith_L60 g 1000 (0 : Int32) M12 (fun M19 => (some ((), M19)))))))) fun k51_10 => (if (3 : Int32) ≤ a4 then (k51_10 a3) else (k51_10 (0 : Int32))))))) fun k34_6 => (if a4 = (1 : Int32) then (k34_6 (0 : Int32)) else (k34_6 a2)))))))
def f_X6_show (g : Nat) (a1 : Int32) (M : Mem) : Option (Int32 × Mem) := (mix (M g 1 5) 8 (mlet (mup M g 4 (M g 1 5).toNatClampNeg a1) fun M1 => (mlet (mup M1 g 1 5 ((M1 g 1 5) + (1 : Int32))) fun M2 => (some ((M2 g 1 5), M2)))))
def f_X6_hide_L12 (g : Nat) : Nat → Int32 → Mem → (Mem → Option (Int32 × Mem)) → Option (Int32 × Mem)
  | 0, _, _, _ => none
  | n + 1, x2, M3, kk => (if (M3 g 1 5) ≤ x2 then (kk M3) else (mix (x2 + (1 : Int32)) 8 (mix x2 8 (mlet (mup M3 g 4 x2.toNatClampNeg (M3 g 4 (x2 + (1 : Int32)).toNatClampNeg)) fun M5 => (mlet (x2 + 1) fun x6 => (f_X6_hide_L12 g n x6 M5 kk))))))
def f_X6_hide (g : Nat) (a1 : Int32) (M : Mem) : Option (Int32 × Mem) := (mlet (mup M g 1 5 ((M g 1 5) - (1 : Int32))) fun M1 => (f_X6_hide_L12 g 1000 a1 M1 (fun M7 => (some ((M7 g 1 5), M7)))))
def f_X6_quotientsOf_L14 (g : Nat) (ga1 : Nat) (ia1 : Nat) (a2 : Int32) (M : Mem) (x1 : Int32) : Nat → Int32 → Int32 → Int32 → (Int32 → Int32 → Option Int32) → Option Int32
  | 0, _, _, _, _ => none
  | n + 1, x2, x3, x4, kk => (if (M g 1 3) ≤ x4 then (kk x2 x3) else (mlet (fun (x9 : Int32) (x10 : Int32) => (mlet (x4 + 1) fun x12 => (f_X6_quotientsOf_L14 g ga1 ia1 a2 M x1 n x9 x10 x12 kk))) fun k66_11 => (if x4 = a2 then (k66_11 x2 x3) else (mix x4 8 (mlet (mrem (x2 * ((x1 - (M ga1 ia1 x4.toNatClampNeg)) + (97 : Int32))) (97 : Int32)) fun x7 => (mix a2 8 (mix x4 8 (mlet (mrem (x3 * (((M ga1 ia1 a2.toNatClampNeg) - (M ga1 ia1 x4.toNatClampNeg)) + (97 : Int32))) (97 : Int32)) fun x8 => (k66_11 x7 x8)))))))))
def f_X6_quotientsOf (g : Nat) (ga1 ia1 : Nat) (a2 : Int32) (a3 : Int32) (M : Mem) : Option Int32 := (mlet (a3 - (1 : Int32)) fun x1 => (f_X6_quotientsOf_L14 g ga1 ia1 a2 M x1 1000 (1 : Int32) (1 : Int32) (0 : Int32) (fun x13 x14 => (mix x14 97 (some (mrem (x13 * (mInv.getD x14.toNatClampNeg 0)) (97 : Int32)))))))
def f_X6_valueThrough_L5 (g : Nat) (ga1 : Nat) (ia1 : Nat) (a2 : Int32) (M : Mem) : Nat → Int32 → Int32 → (Int32 → Option Int32) → Option Int32
  | 0, _, _, _ => none
  | n + 1, x1, x2, kk => (if (M g 1 3) ≤ x2 then (kk x1) else (mix x2 8 (mix (M ga1 ia1 x2.toNatClampNeg) 8 (mbp (f_X6_quotientsOf g ga1 ia1 x2 a2 M) fun r4 => (mlet (x1 + ((M g 2 (M ga1 ia1 x2.toNatClampNeg).toNatClampNeg) * r4)) fun x5 => (mlet (x2 + 1) fun x6 => (f_X6_valueThrough_L5 g ga1 ia1 a2 M n x5 x6 kk)))))))
def f_X6_valueThrough (g : Nat) (ga1 ia1 : Nat) (a2 : Int32) (M : Mem) : Option Int32 := (f_X6_valueThrough_L5 g ga1 ia1 a2 M 1000 (0 : Int32) (0 : Int32) (fun x7 => (some (mrem x7 (97 : Int32)))))
def f_X6_toldAt (g : Nat) (a1 : Int32) (M : Mem) : Option Int32 := (mbp (f_X6_valueThrough g g 4 a1 M) fun r1 => (some r1))
def f_X6_isOneCurve_L5 (g : Nat) (ga1 : Nat) (ia1 : Nat) (a2 : Int32) (M : Mem) : Nat → Int32 → (Unit → Option Int32) → Option Int32
  | 0, _, _ => none
  | n + 1, x2, kk => (if a2 ≤ x2 then (kk ()) else (mix x2 8 (mlet (M ga1 ia1 x2.toNatClampNeg) fun x4 => (mix x4 8 (mbp (f_X6_positionOf x4 M) fun r5 => (mbp (f_X6_valueThrough g ga1 ia1 r5 M) fun r6 => (if (M g 2 x4.toNatClampNeg) = r6 then (mlet (x2 + 1) fun x8 => (f_X6_isOneCurve_L5 g ga1 ia1 a2 M n x8 kk)) else (some (0 : Int32)))))))))
def f_X6_isOneCurve (g : Nat) (ga1 ia1 : Nat) (a2 : Int32) (M : Mem) : Option Int32 := (mlet (M g 1 3) fun x1 => (f_X6_isOneCurve_L5 g ga1 ia1 a2 M 1000 x1 (fun _ => (some (1 : Int32)))))
def f_X6_allAgree (g : Nat) (M : Mem) : Option Int32 := (mbp (f_X6_isOneCurve g g 4 (M g 1 5) M) fun r1 => (mnz r1 (some r1)))
def f_X6_tellTheSecret (g : Nat) (M : Mem) : Option Int32 := (mbp (f_X6_isOneCurve g g 4 (M g 1 5) M) fun r1 => (if r1 = 0 then (some (0 : Int32)) else (mbp (f_X6_toldAt g (0 : Int32) M) fun r3 => (mix (0 : Int32) 3 (if r3 = (M g 3 (0 : Int32).toNatClampNeg) then (some (1 : Int32)) else (some (0 : Int32)))))))
