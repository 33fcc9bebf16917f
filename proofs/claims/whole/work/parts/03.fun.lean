-- printed by wip/gen (functions of the bytecode)
def fX0_forgetFirst (C : dk_O) (CB : Nat → dk_O) : Option ((Nat → Int32) × (Nat → dk_O)) := some (upd C.1 1 13, fun k => if k = 13 then CB 0 else CB (k + 1))
def fJ7_fill_53178_L5 (len : Nat) (w : Nat → Int32) : Nat → Int32 → Int32 → Int32 → (Nat → Int32) → Option ((Nat → Int32))
  | 0, _, _, _, _ => none
  | fu+1, x1, x2, x3, w_row =>
  if x3 ≤ x2 then (some w_row) else
  (dk_wr w_row len x2 x1).bind fun f13 =>
  fJ7_fill_53178_L5 len w fu x1 (x2 + 1) x3 f13
def fJ7_fill_53178 (len : Nat) (w : Nat → Int32) (v1 : Int32) : Option ((Nat → Int32)) :=
  fJ7_fill_53178_L5 len w 1000 v1 0 (Int32.ofNat len) w
def fX1_allEdges (G : dk_O) : Option (Int32) :=
  some (((1 : Int32) <<< ((G.1 4) &&& 31)) - 1)
def fX3_begin (T : dk_O) (G : dk_O) (v1 : Int32) (v2 : Int32) : Option ((Nat → Int32) × (Nat → Int32) × (Nat → Int32)) :=
  (fJ7_fill_53178 4 (T.2 1) (G.1 1)).bind fun g25_0 =>
  (fJ7_fill_53178 4 (T.2 2) (-9)).bind fun g34_0 =>
  (fX1_allEdges G).bind fun r47 =>
  some (upd (upd (upd (upd (upd (upd T.1 3 (if 4 < v1 then 4 else v1)) 4 v2) 5 0) 6 r47) 7 0) 8 ((1 : Int32) <<< ((G.1 1) &&& 31)), g25_0, g34_0)
def fX0_clear (C : dk_O) : Option ((Nat → Int32)) :=
  some (upd C.1 1 0)
def fX3_become_L2 (T : dk_O) (U : dk_O) : Nat → Int32 → (Nat → Int32) → (Nat → Int32) → (Nat → Int32) → Option ((Nat → Int32) × (Nat → Int32) × (Nat → Int32))
  | 0, _, _, _, _ => none
  | fu+1, x2, T_I, T_1, T_2 =>
  if 4 ≤ x2 then (some (upd (upd (upd (upd (upd (upd T_I 3 (U.1 3)) 4 (U.1 4)) 5 (U.1 5)) 6 (U.1 6)) 7 (U.1 7)) 8 (U.1 8), T_1, T_2)) else
  (dk_rd (U.2 1) 4 x2).bind fun d17 =>
  (dk_wr T_1 4 x2 d17).bind fun f18 =>
  (dk_rd (U.2 2) 4 x2).bind fun d29 =>
  (dk_wr T_2 4 x2 d29).bind fun f30 =>
  fX3_become_L2 T U fu (x2 + 1) T_I f18 f30
def fX3_become (T : dk_O) (U : dk_O) : Option ((Nat → Int32) × (Nat → Int32) × (Nat → Int32)) :=
  fX3_become_L2 T U 1000 0 T.1 (T.2 1) (T.2 2)
def fX1_clear (G : dk_O) : Option ((Nat → Int32) × (Nat → Int32) × (Nat → Int32)) :=
  (fJ7_fill_53178 8 (G.2 6) 0).bind fun g10_0 =>
  (fJ7_fill_53178 8 (G.2 8) 0).bind fun g18_0 =>
  some (upd G.1 4 0, g10_0, g18_0)
def fX1_become (G : dk_O) (N : dk_O) : Option ((Nat → Int32) × (Nat → Int32) × (Nat → Int32)) :=
  some (upd (upd (upd (upd (upd G.1 0 (N.1 0)) 1 (N.1 1)) 2 (N.1 2)) 3 (N.1 3)) 4 (N.1 4), va_cpy (N.2 5) (G.2 5) 0 0 10, va_cpy (N.2 6) (G.2 6) 0 0 8)
def fX1_mayEndAt (v0 : Int32) : Option (Int32) :=
  if v0 < 5 then (some 0) else
  if ((v0 - 5) - (v0 - 5) / 3 * 3) = 0 then (some 1) else
  some 0
def fX1_isPlace (G : dk_O) (v1 : Int32) : Option (Int32) :=
  if v1 < 0 then (some 0) else
  if (G.1 0) ≤ v1 then (some 0) else
  if 8 ≤ v1 then (some 0) else
  some 1
def fJ6_bitCount_0f7a4 (v0 : Int32) : Option (Int32) :=
  some ((((((((v0 - (((v0.toUInt32 >>> ((1 : Int32).toUInt32 &&& Int32.toUInt32 31)).toInt32) &&& 1431655765)) &&& 858993459) + ((((v0 - (((v0.toUInt32 >>> ((1 : Int32).toUInt32 &&& Int32.toUInt32 31)).toInt32) &&& 1431655765)).toUInt32 >>> ((2 : Int32).toUInt32 &&& Int32.toUInt32 31)).toInt32) &&& 858993459)) + (((((v0 - (((v0.toUInt32 >>> ((1 : Int32).toUInt32 &&& Int32.toUInt32 31)).toInt32) &&& 1431655765)) &&& 858993459) + ((((v0 - (((v0.toUInt32 >>> ((1 : Int32).toUInt32 &&& Int32.toUInt32 31)).toInt32) &&& 1431655765)).toUInt32 >>> ((2 : Int32).toUInt32 &&& Int32.toUInt32 31)).toInt32) &&& 858993459)).toUInt32 >>> ((4 : Int32).toUInt32 &&& Int32.toUInt32 31)).toInt32)) &&& 252645135) + (((((((v0 - (((v0.toUInt32 >>> ((1 : Int32).toUInt32 &&& Int32.toUInt32 31)).toInt32) &&& 1431655765)) &&& 858993459) + ((((v0 - (((v0.toUInt32 >>> ((1 : Int32).toUInt32 &&& Int32.toUInt32 31)).toInt32) &&& 1431655765)).toUInt32 >>> ((2 : Int32).toUInt32 &&& Int32.toUInt32 31)).toInt32) &&& 858993459)) + (((((v0 - (((v0.toUInt32 >>> ((1 : Int32).toUInt32 &&& Int32.toUInt32 31)).toInt32) &&& 1431655765)) &&& 858993459) + ((((v0 - (((v0.toUInt32 >>> ((1 : Int32).toUInt32 &&& Int32.toUInt32 31)).toInt32) &&& 1431655765)).toUInt32 >>> ((2 : Int32).toUInt32 &&& Int32.toUInt32 31)).toInt32) &&& 858993459)).toUInt32 >>> ((4 : Int32).toUInt32 &&& Int32.toUInt32 31)).toInt32)) &&& 252645135).toUInt32 >>> ((8 : Int32).toUInt32 &&& Int32.toUInt32 31)).toInt32)) + ((((((((v0 - (((v0.toUInt32 >>> ((1 : Int32).toUInt32 &&& Int32.toUInt32 31)).toInt32) &&& 1431655765)) &&& 858993459) + ((((v0 - (((v0.toUInt32 >>> ((1 : Int32).toUInt32 &&& Int32.toUInt32 31)).toInt32) &&& 1431655765)).toUInt32 >>> ((2 : Int32).toUInt32 &&& Int32.toUInt32 31)).toInt32) &&& 858993459)) + (((((v0 - (((v0.toUInt32 >>> ((1 : Int32).toUInt32 &&& Int32.toUInt32 31)).toInt32) &&& 1431655765)) &&& 858993459) + ((((v0 - (((v0.toUInt32 >>> ((1 : Int32).toUInt32 &&& Int32.toUInt32 31)).toInt32) &&& 1431655765)).toUInt32 >>> ((2 : Int32).toUInt32 &&& Int32.toUInt32 31)).toInt32) &&& 858993459)).toUInt32 >>> ((4 : Int32).toUInt32 &&& Int32.toUInt32 31)).toInt32)) &&& 252645135) + (((((((v0 - (((v0.toUInt32 >>> ((1 : Int32).toUInt32 &&& Int32.toUInt32 31)).toInt32) &&& 1431655765)) &&& 858993459) + ((((v0 - (((v0.toUInt32 >>> ((1 : Int32).toUInt32 &&& Int32.toUInt32 31)).toInt32) &&& 1431655765)).toUInt32 >>> ((2 : Int32).toUInt32 &&& Int32.toUInt32 31)).toInt32) &&& 858993459)) + (((((v0 - (((v0.toUInt32 >>> ((1 : Int32).toUInt32 &&& Int32.toUInt32 31)).toInt32) &&& 1431655765)) &&& 858993459) + ((((v0 - (((v0.toUInt32 >>> ((1 : Int32).toUInt32 &&& Int32.toUInt32 31)).toInt32) &&& 1431655765)).toUInt32 >>> ((2 : Int32).toUInt32 &&& Int32.toUInt32 31)).toInt32) &&& 858993459)).toUInt32 >>> ((4 : Int32).toUInt32 &&& Int32.toUInt32 31)).toInt32)) &&& 252645135).toUInt32 >>> ((8 : Int32).toUInt32 &&& Int32.toUInt32 31)).toInt32)).toUInt32 >>> ((16 : Int32).toUInt32 &&& Int32.toUInt32 31)).toInt32)) &&& 63)
def fX0_remember_k (C : dk_O) (CB : Nat → dk_O) (T : dk_O) : Option ((Nat → Int32) × (Nat → dk_O)) :=
  if 0 ≤ (C.1 1).toInt ∧ (C.1 1).toInt < 14 then ((fX3_become (CB (C.1 1).toNatClampNeg) T).bind fun (i, a1, a2) =>
    some (upd C.1 1 ((C.1 1) + 1), dk_upB CB (C.1 1).toNatClampNeg (i, dk_upA (dk_upA (CB (C.1 1).toNatClampNeg).2 1 a1) 2 a2))) else none
def fX0_remember (C : dk_O) (CB : Nat → dk_O) (T : dk_O) : Option ((Nat → Int32) × (Nat → dk_O)) :=
  if (C.1 1) < 14 then fX0_remember_k C CB T else
  (fX0_forgetFirst C CB).bind fun (i10_0, g10_1) => fX0_remember_k (i10_0, C.2) g10_1 T
def fX0_takeBack (C : dk_O) (CB : Nat → dk_O) (T : dk_O) : Option (Int32 × (Nat → Int32) × (Nat → Int32) × (Nat → Int32) × (Nat → Int32)) :=
  if (C.1 1) ≤ 0 then (some (C.1 1, C.1, T.1, T.2 1, T.2 2)) else
  if 0 ≤ ((C.1 1) - 1).toInt ∧ ((C.1 1) - 1).toInt < 14 then ((fX3_become T (CB ((C.1 1) - 1).toNatClampNeg)).bind fun (i, a1, a2) =>
    some ((C.1 1) - 1, upd C.1 1 ((C.1 1) - 1), i, a1, a2)) else none
def fX5_holds (v0 : Int32) (v1 : Int32) : Option (Int32) :=
  if ((v0 >>> (v1 &&& 31)) &&& 1) = 0 then (some 0) else
  some 1
def fX1_addEdge (G : dk_O) (v1 : Int32) (v2 : Int32) : Option (Int32 × (Nat → Int32) × (Nat → Int32) × (Nat → Int32) × (Nat → Int32)) :=
  if v1 = v2 then (some (0, G.1, G.2 5, G.2 6, G.2 8)) else
  if 10 ≤ (G.1 4) then (some (0, G.1, G.2 5, G.2 6, G.2 8)) else
  (dk_rd (G.2 8) 8 v1).bind fun d19 =>
  (fX5_holds d19 v2).bind fun r21 =>
  if r21 = 0 then ((dk_wr (G.2 5) 10 (G.1 4) (((1 : Int32) <<< (v1 &&& 31)) ||| ((1 : Int32) <<< (v2 &&& 31)))).bind fun f44 =>
    (dk_rd (G.2 6) 8 v1).bind fun d51 =>
    (dk_wr (G.2 6) 8 v1 (d51 ||| ((1 : Int32) <<< ((G.1 4) &&& 31)))).bind fun f59 =>
    (dk_rd f59 8 v2).bind fun d66 =>
    (dk_wr f59 8 v2 (d66 ||| ((1 : Int32) <<< ((G.1 4) &&& 31)))).bind fun f74 =>
    (dk_rd (G.2 8) 8 v1).bind fun d81 =>
    (dk_wr (G.2 8) 8 v1 (d81 ||| ((1 : Int32) <<< (v2 &&& 31)))).bind fun f86 =>
    (dk_rd f86 8 v2).bind fun d93 =>
    (dk_wr f86 8 v2 (d93 ||| ((1 : Int32) <<< (v1 &&& 31)))).bind fun f98 =>
    some (1, upd G.1 4 ((G.1 4) + 1), f44, f74, f98)) else
  some (0, G.1, G.2 5, G.2 6, G.2 8)
def fX1_takesOfEdge (G : dk_O) (v1 : Int32) (v2 : Int32) : Option (Int32 × (Nat → Int32) × (Nat → Int32) × (Nat → Int32) × (Nat → Int32)) :=
  if v1 = 0 then (if v2 = 101 then (if 10 ≤ (G.1 4) then (some (0, G.1, G.2 5, G.2 6, G.2 8)) else
      if (((G.1 0) * ((G.1 0) - 1)) / 2) ≤ (G.1 4) then (some (0, G.1, G.2 5, G.2 6, G.2 8)) else
      some (1, G.1, G.2 5, G.2 6, G.2 8)) else
    some (0, G.1, G.2 5, G.2 6, G.2 8)) else
  (fX1_isPlace G (v2 - 48)).bind fun r52 =>
  if r52 = 0 then (some (0, G.1, G.2 5, G.2 6, G.2 8)) else
  if v1 = 1 then ((dk_rd (G.2 8) 8 (v2 - 48)).bind fun d75 =>
    (fJ6_bitCount_0f7a4 d75).bind fun r76 =>
    if ((G.1 0) - 1) ≤ r76 then (some (0, upd G.1 7 (v2 - 48), G.2 5, G.2 6, G.2 8)) else
    some (1, upd G.1 7 (v2 - 48), G.2 5, G.2 6, G.2 8)) else
  (fX1_addEdge G (G.1 7) (v2 - 48)).bind fun (r100, i100_0, g100_1, g100_2, g100_3) =>
  if r100 = 0 ∨ r100 = 1 then some (r100, i100_0, g100_1, g100_2, g100_3) else none
def fX1_takes (G : dk_O) (v1 : Int32) (v2 : Int32) : Option (Int32 × (Nat → Int32) × (Nat → Int32) × (Nat → Int32) × (Nat → Int32)) :=
  if v1 = 0 then (if v2 = 78 then (some (1, G.1, G.2 5, G.2 6, G.2 8)) else
    some (0, G.1, G.2 5, G.2 6, G.2 8)) else
  if v1 = 1 then (if (v2 - 48) < 2 then (some (0, upd G.1 0 (v2 - 48), G.2 5, G.2 6, G.2 8)) else
    if 8 < (v2 - 48) then (some (0, upd G.1 0 (v2 - 48), G.2 5, G.2 6, G.2 8)) else
    some (1, upd G.1 0 (v2 - 48), G.2 5, G.2 6, G.2 8)) else
  if v1 = 2 then ((fX1_isPlace (upd G.1 1 (v2 - 48), G.2) (v2 - 48)).bind fun r81 =>
    if r81 = 0 ∨ r81 = 1 then some (r81, upd G.1 1 (v2 - 48), G.2 5, G.2 6, G.2 8) else none) else
  if v1 = 3 then ((fX1_isPlace (upd G.1 2 (v2 - 48), G.2) (v2 - 48)).bind fun r92 =>
    if r92 = 0 then (some (0, upd G.1 2 (v2 - 48), G.2 5, G.2 6, G.2 8)) else
    if (v2 - 48) = (G.1 1) then (some (0, upd G.1 2 (v2 - 48), G.2 5, G.2 6, G.2 8)) else
    some (1, upd G.1 2 (v2 - 48), G.2 5, G.2 6, G.2 8)) else
  if v1 = 4 then (if (v2 - 48) < 1 then (some (0, upd G.1 3 (v2 - 48), G.2 5, G.2 6, G.2 8)) else
    if 4 < (v2 - 48) then (some (0, upd G.1 3 (v2 - 48), G.2 5, G.2 6, G.2 8)) else
    some (1, upd G.1 3 (v2 - 48), G.2 5, G.2 6, G.2 8)) else
  (fX1_takesOfEdge G ((v1 - 5) - (v1 - 5) / 3 * 3) v2).bind fun (r140, i140_0, g140_1, g140_2, g140_3) =>
  if r140 = 0 ∨ r140 = 1 then some (r140, i140_0, g140_1, g140_2, g140_3) else none
def fX1_isEdge (G : dk_O) (v1 : Int32) : Option (Int32) :=
  if v1 < 0 then (some 0) else
  if (G.1 4) ≤ v1 then (some 0) else
  some 1
def fX5_least_L2  : Nat → Int32 → Int32 → Option (Int32)
  | 0, _, _ => none
  | fu+1, x0, x1 =>
  if 10 ≤ x1 then (some x1) else
  if ((x0 >>> (x1 &&& 31)) &&& 1) = 0 then (fX5_least_L2  fu x0 (x1 + 1)) else
  some x1
def fX5_least (v0 : Int32) : Option (Int32) :=
  fX5_least_L2 1000 v0 0
def fX1_lesserEnd (G : dk_O) (v1 : Int32) : Option (Int32) :=
  (fX1_isEdge G v1).bind fun r2 =>
  if r2 = 0 then (some (-9)) else
  (dk_rd (G.2 5) 10 v1).bind fun d13 =>
  (fX5_least d13).bind fun r14 =>
  some r14
def fX1_otherEnd (G : dk_O) (v1 : Int32) (v2 : Int32) : Option (Int32) :=
  (fX1_isEdge G v1).bind fun r2 =>
  if r2 = 0 then (some (-9)) else
  (dk_rd (G.2 5) 10 v1).bind fun d13 =>
  (fX5_least (d13 &&& (((1 : Int32) <<< (v2 &&& 31)) ^^^ (-1)))).bind fun r20 =>
  some r20
def fX1_greaterEnd (G : dk_O) (v1 : Int32) : Option (Int32) :=
  (fX1_isEdge G v1).bind fun r2 =>
  if r2 = 0 then (some (-9)) else
  (fX1_lesserEnd G v1).bind fun r12 =>
  (fX1_otherEnd G v1 r12).bind fun r15 =>
  some r15
def fX1_edgesFrom (G : dk_O) (v1 : Int32) : Option (Int32) :=
  if v1 < 0 then (some 0) else
  if 8 ≤ v1 then (some 0) else
  (dk_rd (G.2 6) 8 v1).bind fun d15 =>
  some d15
def fX1_edgesAtAny_L4 (G : dk_O) : Nat → Int32 → Int32 → Int32 → Option (Int32)
  | 0, _, _, _ => none
  | fu+1, x1, x2, x3 =>
  if 8 ≤ x3 then (some x2) else
  if ((x1 >>> (x3 &&& 31)) &&& 1) = 0 then (fX1_edgesAtAny_L4 G fu x1 x2 (x3 + 1)) else
  (dk_rd (G.2 6) 8 x3).bind fun d24 =>
  fX1_edgesAtAny_L4 G fu x1 (x2 ||| d24) (x3 + 1)
def fX1_edgesAtAny (G : dk_O) (v1 : Int32) : Option (Int32) :=
  fX1_edgesAtAny_L4 G 1000 v1 0 0
def fX1_endsOf_L4 (G : dk_O) : Nat → Int32 → Int32 → Int32 → Option (Int32)
  | 0, _, _, _ => none
  | fu+1, x1, x2, x3 =>
  if (G.1 4) ≤ x3 then (some x2) else
  if ((x1 >>> (x3 &&& 31)) &&& 1) = 0 then (fX1_endsOf_L4 G fu x1 x2 (x3 + 1)) else
  (dk_rd (G.2 5) 10 x3).bind fun d26 =>
  fX1_endsOf_L4 G fu x1 (x2 ||| d26) (x3 + 1)
def fX1_endsOf (G : dk_O) (v1 : Int32) : Option (Int32) :=
  fX1_endsOf_L4 G 1000 v1 0 0
def fX1_widened_L5 (G : dk_O) : Nat → Int32 → Int32 → Int32 → Int32 → Option (Int32)
  | 0, _, _, _, _ => none
  | fu+1, x1, x2, x3, x4 =>
  if (G.1 4) ≤ x4 then (some x3) else
  if ((x2 >>> (x4 &&& 31)) &&& 1) = 0 then (fX1_widened_L5 G fu x1 x2 x3 (x4 + 1)) else
  (dk_rd (G.2 5) 10 x4).bind fun d29 =>
  if (d29 &&& x1) = 0 then (fX1_widened_L5 G fu x1 x2 x3 (x4 + 1)) else
  (dk_rd (G.2 5) 10 x4).bind fun d42 =>
  fX1_widened_L5 G fu x1 x2 (x3 ||| d42) (x4 + 1)
def fX1_widened (G : dk_O) (v1 : Int32) (v2 : Int32) : Option (Int32) :=
  fX1_widened_L5 G 1000 v1 v2 v1 0
def fX2_add (E : dk_O) (v1 : Int32) (v2 : Int32) : Option (Int32 × (Nat → Int32) × (Nat → Int32) × (Nat → Int32)) :=
  if 6 ≤ (E.1 2) then (some (E.1 2, E.1, E.2 0, E.2 1)) else
  (dk_wr (E.2 0) 6 (E.1 2) v1).bind fun f18 =>
  (dk_wr (E.2 1) 6 (E.1 2) v2).bind fun f28 =>
  some ((E.1 2) + 1, upd E.1 2 ((E.1 2) + 1), f18, f28)
def fX2_clear (E : dk_O) : Option (Int32 × (Nat → Int32)) :=
  some (E.1 2, upd E.1 2 0)
def fX2_mostRounds_L4 (E : dk_O) : Nat → Int32 → Int32 → Option (Int32)
  | 0, _, _ => none
  | fu+1, x1, x2 =>
  if (E.1 2) ≤ x2 then (some x1) else
  (dk_rd (E.2 0) 6 x2).bind fun d18 =>
  fX2_mostRounds_L4 E fu (if x1 < d18 then d18 else x1) (x2 + 1)
def fX2_mostRounds (E : dk_O) : Option (Int32) :=
  fX2_mostRounds_L4 E 1000 0 0
def fX2_speaksAgainst_L2 (E : dk_O) : Nat → Int32 → Int32 → Int32 → Option (Int32)
  | 0, _, _, _ => none
  | fu+1, x1, x2, x3 =>
  if (E.1 2) ≤ x3 then (some 0) else
  (dk_rd (E.2 0) 6 x3).bind fun d15 =>
  if d15 = x1 then ((dk_rd (E.2 1) 6 x3).bind fun d25 =>
    if d25 = x2 then (fX2_speaksAgainst_L2 E fu x1 x2 (x3 + 1)) else
    some 1) else
  fX2_speaksAgainst_L2 E fu x1 x2 (x3 + 1)
def fX2_speaksAgainst (E : dk_O) (v1 : Int32) (v2 : Int32) : Option (Int32) :=
  fX2_speaksAgainst_L2 E 1000 v1 v2 0
def fX3_suppose (T : dk_O) (U : dk_O) (v2 : Int32) : Option ((Nat → Int32) × (Nat → Int32) × (Nat → Int32)) :=
  (fX3_become T U).bind fun (i2_0, g2_1, g2_2) =>
  some (upd i2_0 4 v2, g2_1, g2_2)
def fX3_isSearcher (T : dk_O) (G : dk_O) (v1 : Int32) : Option (Int32) :=
  if v1 < 0 then (some 0) else
  if (T.1 3) ≤ v1 then (some 0) else
  some 1
def fX3_lives (T : dk_O) (G : dk_O) (v1 : Int32) : Option (Int32) :=
  (fX3_isSearcher T G v1).bind fun r2 =>
  if r2 = 0 then (some 0) else
  (dk_rd (T.2 1) 4 v1).bind fun d13 =>
  if d13 = (-9) then (some 0) else
  some 1
def fX3_placeOf (T : dk_O) (G : dk_O) (v1 : Int32) : Option (Int32) :=
  (fX3_isSearcher T G v1).bind fun r2 =>
  if r2 = 0 then (some (-9)) else
  (dk_rd (T.2 1) 4 v1).bind fun d13 =>
  some d13
def fX3_wayOutOf (T : dk_O) (G : dk_O) (v1 : Int32) : Option (Int32) :=
  (fX3_isSearcher T G v1).bind fun r2 =>
  if r2 = 0 then (some (-9)) else
  (dk_rd (T.2 2) 4 v1).bind fun d13 =>
  some d13
def fX3_livingOnes_L4 (T : dk_O) (G : dk_O) : Nat → Int32 → Int32 → Option (Int32)
  | 0, _, _ => none
  | fu+1, x1, x2 =>
  if (T.1 3) ≤ x2 then (some x1) else
  (dk_rd (T.2 1) 4 x2).bind fun d17 =>
  if d17 = (-9) then (fX3_livingOnes_L4 T G fu x1 (x2 + 1)) else
  fX3_livingOnes_L4 T G fu (x1 ||| ((1 : Int32) <<< (x2 &&& 31))) (x2 + 1)
def fX3_livingOnes (T : dk_O) (G : dk_O) : Option (Int32) :=
  fX3_livingOnes_L4 T G 1000 0 0
def fX3_living (T : dk_O) (G : dk_O) : Option (Int32) :=
  (fX3_livingOnes T G).bind fun r1 =>
  (fJ6_bitCount_0f7a4 r1).bind fun r4 =>
  some r4
def fX3_stateOf (T : dk_O) (G : dk_O) (v1 : Int32) : Option (Int32) :=
  (fX5_holds (T.1 6) v1).bind fun r5 =>
  if r5 = 0 then ((fX5_holds (T.1 7) v1).bind fun r18 =>
    if r18 = 0 then (some 1) else
    some 2) else
  some 0
def fX3_whoIsOutThrough_L2 (T : dk_O) (G : dk_O) : Nat → Int32 → Int32 → Option (Int32)
  | 0, _, _ => none
  | fu+1, x1, x2 =>
  if (T.1 3) ≤ x2 then (some (-9)) else
  (dk_rd (T.2 2) 4 x2).bind fun d15 =>
  if d15 = x1 then (some x2) else
  fX3_whoIsOutThrough_L2 T G fu x1 (x2 + 1)
def fX3_whoIsOutThrough (T : dk_O) (G : dk_O) (v1 : Int32) : Option (Int32) :=
  fX3_whoIsOutThrough_L2 T G 1000 v1 0
def fX3_mayBe (T : dk_O) (G : dk_O) : Option (Int32) :=
  some ((((1 : Int32) <<< ((G.1 0) &&& 31)) - 1) &&& ((T.1 8) ^^^ (-1)))
def fX3_isKnown (T : dk_O) (G : dk_O) : Option (Int32) :=
  (fX3_mayBe T G).bind fun r1 =>
  (fJ6_bitCount_0f7a4 r1).bind fun r4 =>
  if r4 = 1 then (some 1) else
  some 0
def fX3_isKnownAt (T : dk_O) (G : dk_O) (v1 : Int32) : Option (Int32) :=
  (fX3_isKnown T G).bind fun r1 =>
  if r1 = 0 then (some 0) else
  (fX3_mayBe T G).bind fun r8 =>
  (fX5_holds r8 v1).bind fun r12 =>
  if r12 = 0 then (some 0) else
  some 1
def fX3_fated_L7 (T : dk_O) (G : dk_O) : Nat → Int32 → Int32 → Option (Int32)
  | 0, _, _ => none
  | fu+1, x1, x2 =>
  if (T.1 3) ≤ x2 then (some x1) else
  (dk_rd (T.2 1) 4 x2).bind fun d20 =>
  if d20 = (-9) then (fX3_fated_L7 T G fu x1 (x2 + 1)) else
  (dk_rd (T.2 1) 4 x2).bind fun d33 =>
  fX3_fated_L7 T G fu (x1 &&& (((1 : Int32) <<< (d33 &&& 31)) ^^^ (-1))) (x2 + 1)
def fX3_fated (T : dk_O) (G : dk_O) : Option (Int32) :=
  (fX3_mayBe T G).bind fun r1 =>
  fX3_fated_L7 T G 1000 r1 0
def fX3_addSearcher (T : dk_O) (G : dk_O) : Option (Int32 × (Nat → Int32) × (Nat → Int32) × (Nat → Int32)) :=
  if 4 ≤ (T.1 3) then (some (T.1 3, T.1, T.2 1, T.2 2)) else
  (dk_wr (T.2 1) 4 (T.1 3) (G.1 1)).bind fun f22 =>
  (dk_wr (T.2 2) 4 (T.1 3) (-9)).bind fun f30 =>
  some (T.1 3, upd T.1 3 ((T.1 3) + 1), f22, f30)
def fX3_openEdges_L65 (T : dk_O) (G : dk_O) (x1 : Int32) (s0 : Int32) : Option (Int32) :=
  (dk_rd (T.2 1) 4 x1).bind fun d75 =>
  (fX1_edgesFrom G d75).bind fun r76 =>
  some (r76 &&& ((T.1 7) ||| s0))
def fX3_openEdges (T : dk_O) (G : dk_O) (v1 : Int32) : Option (Int32) :=
  (fX3_lives T G v1).bind fun r2 =>
  if r2 = 0 then (some 0) else
  (dk_rd (T.2 2) 4 v1).bind fun d15 =>
  if d15 = (-9) then ((fX3_isKnown T G).bind fun r31 =>
    if r31 = 0 then (fX3_openEdges_L65 T G v1 (T.1 6)) else
    (fX3_mayBe T G).bind fun r46 =>
    (fX5_least r46).bind fun r49 =>
    (fX1_edgesFrom G r49).bind fun r52 =>
    fX3_openEdges_L65 T G v1 ((T.1 6) &&& (r52 ^^^ (-1)))) else
  (dk_rd (T.2 2) 4 v1).bind fun d27 =>
  some ((1 : Int32) <<< (d27 &&& 31))
def fX3_canGo (T : dk_O) (G : dk_O) (v1 : Int32) (v2 : Int32) : Option (Int32) :=
  (fX1_isEdge G v2).bind fun r5 =>
  if r5 = 0 then (some 0) else
  (fX3_openEdges T G v1).bind fun r13 =>
  (fX5_holds r13 v2).bind fun r17 =>
  if r17 = 0 then (some 0) else
  some 1
def fX3_comeBack (T : dk_O) (G : dk_O) (v1 : Int32) (v2 : Int32) (v3 : Int32) : Option ((Nat → Int32) × (Nat → Int32) × (Nat → Int32)) :=
  (dk_rd (T.2 1) 4 v1).bind fun d23 =>
  (dk_wr (T.2 1) 4 v1 v3).bind fun f39 =>
  (dk_wr (T.2 2) 4 v1 (-9)).bind fun f47 =>
  some (upd (upd T.1 7 ((T.1 7) ||| ((1 : Int32) <<< (v2 &&& 31)))) 8 ((T.1 8) ||| (((1 : Int32) <<< (d23 &&& 31)) ||| ((1 : Int32) <<< (v3 &&& 31)))), f39, f47)
def fX3_goOut (T : dk_O) (G : dk_O) (v1 : Int32) (v2 : Int32) (v3 : Int32) : Option ((Nat → Int32) × (Nat → Int32) × (Nat → Int32)) :=
  if v3 = (T.1 4) then ((dk_wr (T.2 1) 4 v1 (-9)).bind fun f29 =>
    some (upd T.1 6 ((T.1 6) &&& (((1 : Int32) <<< (v2 &&& 31)) ^^^ (-1))), f29, T.2 2)) else
  (dk_wr (T.2 1) 4 v1 v3).bind fun f39 =>
  (dk_wr (T.2 2) 4 v1 v2).bind fun f46 =>
  some (upd T.1 6 ((T.1 6) &&& (((1 : Int32) <<< (v2 &&& 31)) ^^^ (-1))), f39, f46)
def fX3_go (T : dk_O) (G : dk_O) (v1 : Int32) (v2 : Int32) : Option ((Nat → Int32) × (Nat → Int32) × (Nat → Int32)) :=
  (fX3_lives T G v1).bind fun r2 =>
  if r2 = 0 then (some (T.1, T.2 1, T.2 2)) else
  (dk_rd (T.2 1) 4 v1).bind fun d19 =>
  (fX1_otherEnd G v2 d19).bind fun r20 =>
  (dk_rd (T.2 2) 4 v1).bind fun d39 =>
  if d39 = (-9) then ((fX5_holds (T.1 7) v2).bind fun r60 =>
    if r60 = 0 then ((fX3_goOut (upd T.1 5 ((T.1 5) + 1), T.2) G v1 v2 r20).bind fun (i80_0, g80_1, g80_2) =>
      some (i80_0, g80_1, g80_2)) else
    (dk_wr (T.2 1) 4 v1 r20).bind fun f72 =>
    some (upd T.1 5 ((T.1 5) + 1), f72, T.2 2)) else
  (fX3_comeBack (upd T.1 5 ((T.1 5) + 1), T.2) G v1 v2 r20).bind fun (i49_0, g49_1, g49_2) =>
  some (i49_0, g49_1, g49_2)
def fX3_goIfPossible (T : dk_O) (G : dk_O) (v1 : Int32) (v2 : Int32) : Option (Int32 × (Nat → Int32) × (Nat → Int32) × (Nat → Int32)) :=
  (fX3_canGo T G v1 v2).bind fun r3 =>
  if r3 = 0 then (some (0, T.1, T.2 1, T.2 2)) else
  (fX3_go T G v1 v2).bind fun (i14_0, g14_1, g14_2) =>
  some (1, i14_0, g14_1, g14_2)
def fX3_nearestUnseen_L19 (T : dk_O) (G : dk_O) : Nat → Int32 → Int32 → Int32 → Option (Int32)
  | 0, _, _, _ => none
  | fu+1, x2, x3, x4 =>
  if 8 ≤ x4 then (some (-9)) else
  (fX1_widened G x3 (T.1 7)).bind fun r35 =>
  if r35 = x3 then (some (-9)) else
  if (r35 &&& x2) = 0 then (fX3_nearestUnseen_L19 T G fu x2 r35 (x4 + 1)) else
  (fX5_least (r35 &&& x2)).bind fun r60 =>
  some r60
def fX3_nearestUnseen (T : dk_O) (G : dk_O) (v1 : Int32) : Option (Int32) :=
  (fX1_endsOf G (T.1 6)).bind fun r8 =>
  fX3_nearestUnseen_L19 T G 1000 r8 ((1 : Int32) <<< (v1 &&& 31)) 1
def fX3_edgeTowards_L7 (T : dk_O) (G : dk_O) : Nat → Int32 → Int32 → Int32 → Option (Int32)
  | 0, _, _, _ => none
  | fu+1, x2, x3, x4 =>
  if 8 ≤ x4 then (some (-9)) else
  (fX1_edgesFrom G x2).bind fun r19 =>
  (fX1_edgesAtAny G x3).bind fun r32 =>
  if ((r19 &&& (T.1 7)) &&& r32) = 0 then ((fX1_widened G x3 (T.1 7)).bind fun r58 =>
    fX3_edgeTowards_L7 T G fu x2 r58 (x4 + 1)) else
  (fX5_least ((r19 &&& (T.1 7)) &&& r32)).bind fun r45 =>
  some r45
def fX3_edgeTowards (T : dk_O) (G : dk_O) (v1 : Int32) (v2 : Int32) : Option (Int32) :=
  fX3_edgeTowards_L7 T G 1000 v2 ((1 : Int32) <<< (v1 &&& 31)) 1
def fX3_cautiousEdge (T : dk_O) (G : dk_O) (v1 : Int32) : Option (Int32) :=
  (fX3_lives T G v1).bind fun r2 =>
  if r2 = 0 then (some (-9)) else
  (dk_rd (T.2 2) 4 v1).bind fun d16 =>
  if d16 = (-9) then ((fX3_isKnown T G).bind fun r30 =>
    if r30 = 0 then ((dk_rd (T.2 1) 4 v1).bind fun d48 =>
      (fX1_edgesFrom G d48).bind fun r49 =>
      if (r49 &&& (T.1 6)) = 0 then ((dk_rd (T.2 1) 4 v1).bind fun d73 =>
        (fX3_nearestUnseen T G d73).bind fun r74 =>
        if r74 = (-9) then (some (-9)) else
        (dk_rd (T.2 1) 4 v1).bind fun d96 =>
        (fX3_edgeTowards T G r74 d96).bind fun r97 =>
        some r97) else
      (fX5_least (r49 &&& (T.1 6))).bind fun r63 =>
      some r63) else
    some (-9)) else
  (dk_rd (T.2 2) 4 v1).bind fun d27 =>
  some d27
def fX3_playRound_L4 (T : dk_O) (G : dk_O) : Nat → Int32 → Int32 → Int32 → (Nat → Int32) → (Nat → Int32) → (Nat → Int32) → Option (Int32 × (Nat → Int32) × (Nat → Int32) × (Nat → Int32))
  | 0, _, _, _, _, _, _ => none
  | fu+1, x1, x2, x3, T_I, T_1, T_2 =>
  if (T_I 3) ≤ x3 then (some (x2, T_I, T_1, T_2)) else
  (fX5_holds x1 x3).bind fun r14 =>
  if r14 = 0 then (fX3_playRound_L4 T G fu x1 x2 (x3 + 1) T_I T_1 T_2) else
  (fX3_cautiousEdge (T_I, dk_upA (dk_upA T.2 1 T_1) 2 T_2) G x3).bind fun r22 =>
  if r22 = (-9) then (fX3_playRound_L4 T G fu x1 x2 (x3 + 1) T_I T_1 T_2) else
  (fX3_go (T_I, dk_upA (dk_upA T.2 1 T_1) 2 T_2) G x3 r22).bind fun (i38_0, g38_1, g38_2) =>
  fX3_playRound_L4 T G fu x1 (x2 + 1) (x3 + 1) i38_0 g38_1 g38_2
def fX3_playRound (T : dk_O) (G : dk_O) (v1 : Int32) : Option (Int32 × (Nat → Int32) × (Nat → Int32) × (Nat → Int32)) :=
  fX3_playRound_L4 T G 1000 v1 0 0 T.1 (T.2 1) (T.2 2)
def fX3_playTillKnown_L2 (T : dk_O) (G : dk_O) : Nat → Int32 → (Nat → Int32) → (Nat → Int32) → (Nat → Int32) → Option (Int32 × (Nat → Int32) × (Nat → Int32) × (Nat → Int32))
  | 0, _, _, _, _ => none
  | fu+1, x1, T_I, T_1, T_2 =>
  if 60 ≤ x1 then ((fX3_isKnown (T_I, dk_upA (dk_upA T.2 1 T_1) 2 T_2) G).bind fun r36 =>
    if r36 = 0 then (some ((-9), T_I, T_1, T_2)) else
    some (60, T_I, T_1, T_2)) else
  (fX3_isKnown (T_I, dk_upA (dk_upA T.2 1 T_1) 2 T_2) G).bind fun r9 =>
  if r9 = 0 then ((fX3_playRound (T_I, dk_upA (dk_upA T.2 1 T_1) 2 T_2) G 15).bind fun (r20, i20_0, g20_1, g20_2) =>
    if r20 = 0 then (some ((-9), i20_0, g20_1, g20_2)) else
    fX3_playTillKnown_L2 T G fu (x1 + 1) i20_0 g20_1 g20_2) else
  some (x1, T_I, T_1, T_2)
def fX3_playTillKnown (T : dk_O) (G : dk_O) : Option (Int32 × (Nat → Int32) × (Nat → Int32) × (Nat → Int32)) :=
  fX3_playTillKnown_L2 T G 1000 0 T.1 (T.2 1) (T.2 2)
def fX3_playIfAnyLives (T : dk_O) (G : dk_O) : Option (Int32 × (Nat → Int32) × (Nat → Int32) × (Nat → Int32)) :=
  (fX3_living T G).bind fun r1 =>
  if r1 = 0 then (some (0, T.1, T.2 1, T.2 2)) else
  (fX3_playRound T G 15).bind fun (r12, i12_0, g12_1, g12_2) =>
  some (1, i12_0, g12_1, g12_2)
def fX3_allows (T : dk_O) (G : dk_O) (v1 : Int32) (v2 : Int32) (v3 : Int32) : Option (Int32 × (Nat → Int32) × (Nat → Int32) × (Nat → Int32)) :=
  if v1 = 1 then ((fX3_goIfPossible T G v2 v3).bind fun (r47, i47_0, g47_1, g47_2) =>
    if r47 = 0 ∨ r47 = 1 then some (r47, i47_0, g47_1, g47_2) else none) else
  if v1 = 2 then (if v2 = 0 then (if v3 = 0 then ((fX3_playIfAnyLives T G).bind fun (r60, i60_0, g60_1, g60_2) =>
        if r60 = 0 then (some (0, i60_0, g60_1, g60_2)) else
        some (1, i60_0, g60_1, g60_2)) else
      some (0, T.1, T.2 1, T.2 2)) else
    some (0, T.1, T.2 1, T.2 2)) else
  if v1 = 3 then (if v2 = 0 then ((fX3_living T G).bind fun r77 =>
      if r77 = v3 then (some (1, T.1, T.2 1, T.2 2)) else
      some (0, T.1, T.2 1, T.2 2)) else
    some (0, T.1, T.2 1, T.2 2)) else
  if v1 = 4 then (if v2 = 0 then ((fX3_mayBe T G).bind fun r95 =>
      (fX5_holds r95 v3).bind fun r99 =>
      if r99 = 0 then (some (0, T.1, T.2 1, T.2 2)) else
      some (1, T.1, T.2 1, T.2 2)) else
    some (0, T.1, T.2 1, T.2 2)) else
  if v1 = 5 then ((fX3_lives T G v2).bind fun r113 =>
    if r113 = 0 then (some (0, T.1, T.2 1, T.2 2)) else
    (fX3_placeOf T G v2).bind fun r121 =>
    if r121 = v3 then (some (1, T.1, T.2 1, T.2 2)) else
    some (0, T.1, T.2 1, T.2 2)) else
  if v1 = 6 then ((fX1_isEdge G v2).bind fun r139 =>
    if r139 = 0 then (some (0, T.1, T.2 1, T.2 2)) else
    (fX3_stateOf T G v2).bind fun r147 =>
    if r147 = v3 then (some (1, T.1, T.2 1, T.2 2)) else
    some (0, T.1, T.2 1, T.2 2)) else
  if v1 = 7 then (if v2 = 0 then ((fX3_isKnownAt T G v3).bind fun r166 =>
      if r166 = 0 then (some (0, T.1, T.2 1, T.2 2)) else
      some (1, T.1, T.2 1, T.2 2)) else
    some (0, T.1, T.2 1, T.2 2)) else
  some (0, T.1, T.2 1, T.2 2)
def fX4_isFull (X : dk_O) : Option (Int32) :=
  if (X.1 1) < 40 then (some 0) else
  some 1
def fX4_add (X : dk_O) (v1 : Int32) : Option (Int32 × (Nat → Int32) × (Nat → Int32)) :=
  (fX4_isFull X).bind fun r1 =>
  if r1 = 0 then ((dk_wr (X.2 0) 40 (X.1 1) v1).bind fun f16 =>
    some ((X.1 1) + 1, upd X.1 1 ((X.1 1) + 1), f16)) else
  some (X.1 1, X.1, X.2 0)
def fX4_clear (X : dk_O) : Option (Int32 × (Nat → Int32)) :=
  some (X.1 1, upd X.1 1 0)
def fX4_readInto_L6 (X : dk_O) (G : dk_O) : Nat → Int32 → (Nat → Int32) → (Nat → Int32) → (Nat → Int32) → (Nat → Int32) → Option (Int32 × (Nat → Int32) × (Nat → Int32) × (Nat → Int32) × (Nat → Int32))
  | 0, _, _, _, _, _ => none
  | fu+1, x2, G_I, G_5, G_6, G_8 =>
  if (X.1 1) ≤ x2 then ((fX1_mayEndAt (X.1 1)).bind fun r40 =>
    if r40 = 0 then (some (X.1 1, G_I, G_5, G_6, G_8)) else
    some ((-9), G_I, G_5, G_6, G_8)) else
  (dk_rd (X.2 0) 40 x2).bind fun d21 =>
  (fX1_takes (G_I, dk_upA (dk_upA (dk_upA G.2 5 G_5) 6 G_6) 8 G_8) x2 d21).bind fun (r22, i22_0, g22_1, g22_2, g22_3) =>
  if r22 = 0 then (some (x2, i22_0, g22_1, g22_2, g22_3)) else
  fX4_readInto_L6 X G fu (x2 + 1) i22_0 g22_1 g22_2 g22_3
def fX4_readInto (X : dk_O) (G : dk_O) : Option (Int32 × (Nat → Int32) × (Nat → Int32) × (Nat → Int32) × (Nat → Int32)) :=
  (fX1_clear G).bind fun (i1_0, g1_1, g1_2) =>
  fX4_readInto_L6 X G 1000 0 i1_0 (G.2 5) g1_1 g1_2
def fX5_write (Q : dk_O) (X : dk_O) (v1 : Int32) : Option (Int32 × (Nat → Int32) × (Nat → Int32)) :=
  if v1 < 0 then (some ((-2), X.1, X.2 0)) else
  if v1 ≤ 255 then ((fX4_isFull X).bind fun r18 =>
    if r18 = 0 then ((fX4_add X v1).bind fun (r32, i32_0, g32_1) =>
      some (r32, i32_0, g32_1)) else
    some ((-4), X.1, X.2 0)) else
  some ((-2), X.1, X.2 0)
def fX5_wipe (Q : dk_O) (X : dk_O) : Option (Int32 × (Nat → Int32)) :=
  (fX4_clear X).bind fun (r4, i4_0) =>
  some (r4, i4_0)
def fX5_fault (Q : dk_O) (X : dk_O) (N : dk_O) : Option (Int32 × (Nat → Int32) × (Nat → Int32) × (Nat → Int32) × (Nat → Int32)) :=
  (fX4_readInto X N).bind fun (r8, i8_0, g8_1, g8_2, g8_3) =>
  some (r8, i8_0, g8_1, g8_2, g8_3)
def fX5_net_L60 (Q : dk_O) (X : dk_O) (N : dk_O) (G : dk_O) (T : dk_O) (C : dk_O) : Nat → Int32 → (Nat → Int32) → (Nat → Int32) → (Nat → Int32) → (Nat → Int32) → (Nat → Int32) → (Nat → Int32) → (Nat → Int32) → (Nat → Int32) → (Nat → Int32) → (Nat → Int32) → (Nat → Int32) → (Nat → Int32) → Option (Int32 × (Nat → Int32) × (Nat → Int32) × (Nat → Int32) × (Nat → Int32) × (Nat → Int32) × (Nat → Int32) × (Nat → Int32) × (Nat → Int32) × (Nat → Int32) × (Nat → Int32) × (Nat → Int32) × (Nat → Int32))
  | 0, _, _, _, _, _, _, _, _, _, _, _, _, _ => none
  | fu+1, x1, Q_7, N_I, N_5, N_6, N_8, G_I, G_5, G_6, T_I, T_1, T_2, C_I =>
  if 2 ≤ x1 then (some (G_I 4, Q_7, N_I, N_5, N_6, N_8, G_I, G_5, G_6, T_I, T_1, T_2, C_I)) else
  (dk_wr Q_7 2 x1 0).bind fun f71 =>
  fX5_net_L60 Q X N G T C fu (x1 + 1) f71 N_I N_5 N_6 N_8 G_I G_5 G_6 T_I T_1 T_2 C_I
def fX5_net (Q : dk_O) (X : dk_O) (N : dk_O) (G : dk_O) (T : dk_O) (C : dk_O) : Option (Int32 × (Nat → Int32) × (Nat → Int32) × (Nat → Int32) × (Nat → Int32) × (Nat → Int32) × (Nat → Int32) × (Nat → Int32) × (Nat → Int32) × (Nat → Int32) × (Nat → Int32) × (Nat → Int32) × (Nat → Int32)) :=
  (fX4_readInto X N).bind fun (r8, i8_0, g8_1, g8_2, g8_3) =>
  if r8 = (-9) then ((fX1_become G (i8_0, dk_upA (dk_upA (dk_upA N.2 5 g8_1) 6 g8_2) 8 g8_3)).bind fun (i27_0, g27_1, g27_2) =>
    (fX3_begin T (i27_0, dk_upA (dk_upA G.2 5 g27_1) 6 g27_2) (i27_0 3) (i27_0 2)).bind fun (i48_0, g48_1, g48_2) =>
    (fX0_clear C).bind fun i55_0 =>
    fX5_net_L60 Q X N G T C 1000 0 (Q.2 7) i8_0 g8_1 g8_2 g8_3 i27_0 g27_1 g27_2 i48_0 g48_1 g48_2 i55_0) else
  some ((-3), Q.2 7, i8_0, g8_1, g8_2, g8_3, G.1, G.2 5, G.2 6, T.1, T.2 1, T.2 2, C.1)
def fX5_edge (Q : dk_O) (G : dk_O) (T : dk_O) (v1 : Int32) (v2 : Int32) : Option (Int32) :=
  (fX1_isEdge G v1).bind fun r5 =>
  if r5 = 0 then (some (-1)) else
  if v2 = 0 then ((fX1_lesserEnd G v1).bind fun r49 =>
    some r49) else
  if v2 = 1 then ((fX1_greaterEnd G v1).bind fun r58 =>
    some r58) else
  if v2 = 2 then ((fX3_stateOf T G v1).bind fun r67 =>
    some r67) else
  if v2 = 3 then ((fX3_whoIsOutThrough T G v1).bind fun r76 =>
    some r76) else
  some (-2)
def fX5_searcher (Q : dk_O) (T : dk_O) (G : dk_O) (v1 : Int32) (v2 : Int32) : Option (Int32) :=
  (fX3_isSearcher T G v1).bind fun r5 =>
  if r5 = 0 then (some (-1)) else
  if v2 = 0 then ((fX3_placeOf T G v1).bind fun r49 =>
    some r49) else
  if v2 = 1 then ((fX3_wayOutOf T G v1).bind fun r58 =>
    some r58) else
  if v2 = 2 then ((fX3_openEdges T G v1).bind fun r67 =>
    some r67) else
  if v2 = 3 then ((fX3_cautiousEdge T G v1).bind fun r76 =>
    some r76) else
  some (-2)
def fX5_step (Q : dk_O) (T : dk_O) (G : dk_O) (C : dk_O) (CB : Nat → dk_O) (v1 : Int32) (v2 : Int32) : Option (Int32 × (Nat → Int32) × (Nat → Int32) × (Nat → Int32) × (Nat → Int32) × (Nat → dk_O)) :=
  (fX3_isSearcher T G v1).bind fun r5 =>
  if r5 = 0 then (some ((-1), T.1, T.2 1, T.2 2, C.1, CB)) else
  (fX1_isEdge G v2).bind fun r16 =>
  if r16 = 0 then (some ((-1), T.1, T.2 1, T.2 2, C.1, CB)) else
  (fX3_canGo T G v1 v2).bind fun r30 =>
  if r30 = 0 then (some ((-3), T.1, T.2 1, T.2 2, C.1, CB)) else
  (fX0_remember C CB T).bind fun (i47_0, g47_1) =>
  (fX3_go T G v1 v2).bind fun (i56_0, g56_1, g56_2) =>
  (fX3_placeOf (i56_0, dk_upA (dk_upA T.2 1 g56_1) 2 g56_2) G v1).bind fun r64 =>
  some (r64, i56_0, g56_1, g56_2, i47_0, g47_1)
def fX5_round (Q : dk_O) (T : dk_O) (G : dk_O) (C : dk_O) (CB : Nat → dk_O) : Option (Int32 × (Nat → Int32) × (Nat → Int32) × (Nat → Int32) × (Nat → Int32) × (Nat → dk_O)) :=
  (fX3_living T G).bind fun r4 =>
  if r4 = 0 then (some ((-3), T.1, T.2 1, T.2 2, C.1, CB)) else
  (fX0_remember C CB T).bind fun (i21_0, g21_1) =>
  (fX3_playRound T G 15).bind fun (r30, i30_0, g30_1, g30_2) =>
  some (r30, i30_0, g30_1, g30_2, i21_0, g21_1)
def fX5_join (Q : dk_O) (T : dk_O) (G : dk_O) (C : dk_O) (CB : Nat → dk_O) : Option (Int32 × (Nat → Int32) × (Nat → Int32) × (Nat → Int32) × (Nat → Int32) × (Nat → dk_O)) :=
  if (T.1 3) < 4 then ((fX0_remember C CB T).bind fun (i22_0, g22_1) =>
    (fX3_addSearcher T G).bind fun (r29, i29_0, g29_1, g29_2) =>
    some (r29, i29_0, g29_1, g29_2, i22_0, g22_1)) else
  some ((-4), T.1, T.2 1, T.2 2, C.1, CB)
def fX5_hide (Q : dk_O) (T : dk_O) (G : dk_O) (C : dk_O) (CB : Nat → dk_O) (v1 : Int32) : Option (Int32 × (Nat → Int32) × (Nat → Int32) × (Nat → dk_O)) :=
  (fX1_isPlace G v1).bind fun r5 =>
  if r5 = 0 then (some ((-1), T.1, C.1, CB)) else
  if v1 = (T.1 4) then (some ((-3), T.1, C.1, CB)) else
  (fX3_fated T G).bind fun r30 =>
  (fX5_holds r30 v1).bind fun r34 =>
  if r34 = 0 then (some ((-3), T.1, C.1, CB)) else
  (fX0_remember C CB T).bind fun (i51_0, g51_1) =>
  some (T.1 4, upd T.1 4 v1, i51_0, g51_1)
def fX5_undo (Q : dk_O) (T : dk_O) (C : dk_O) (CB : Nat → dk_O) : Option (Int32 × (Nat → Int32) × (Nat → Int32) × (Nat → Int32) × (Nat → Int32)) :=
  if (C.1 1) = 0 then (some ((-3), T.1, T.2 1, T.2 2, C.1)) else
  (fX0_takeBack C CB T).bind fun (r21, i21_0, i21_1, g21_2, g21_3) =>
  some (r21, i21_1, g21_2, g21_3, i21_0)
def fX5_worstPlace_L68 (Q : dk_O) (T : dk_O) (G : dk_O) (U : dk_O) (k16 : Int32 → Int32 → Int32 → Int32 → (Nat → Int32) → (Nat → Int32) → (Nat → Int32) → Option (Int32 × (Nat → Int32) × (Nat → Int32) × (Nat → Int32))) (x1 : Int32) (x2 : Int32) (x3 : Int32) (x4 : Int32) (s0 : Int32) (U_I : (Nat → Int32)) (U_1 : (Nat → Int32)) (U_2 : (Nat → Int32)) : Option (Int32 × (Nat → Int32) × (Nat → Int32) × (Nat → Int32)) :=
  if s0 ≤ x3 then (k16 x1 x2 x3 (x4 + 1) U_I U_1 U_2) else
  k16 x1 x4 s0 (x4 + 1) U_I U_1 U_2
def fX5_worstPlace_L16 (Q : dk_O) (T : dk_O) (G : dk_O) (U : dk_O) : Nat → Int32 → Int32 → Int32 → Int32 → (Nat → Int32) → (Nat → Int32) → (Nat → Int32) → Option (Int32 × (Nat → Int32) × (Nat → Int32) × (Nat → Int32))
  | 0, _, _, _, _, _, _, _ => none
  | fu+1, x1, x2, x3, x4, U_I, U_1, U_2 =>
  if 8 ≤ x4 then (some (x2, U_I, U_1, U_2)) else
  (fX5_holds x1 x4).bind fun r26 =>
  if r26 = 0 then (fX5_worstPlace_L16 Q T G U fu x1 x2 x3 (x4 + 1) U_I U_1 U_2) else
  (fX3_suppose (U_I, dk_upA (dk_upA U.2 1 U_1) 2 U_2) T x4).bind fun (i42_0, g42_1, g42_2) =>
  (fX3_playTillKnown (i42_0, dk_upA (dk_upA U.2 1 g42_1) 2 g42_2) G).bind fun (r49, i49_0, g49_1, g49_2) =>
  if r49 = (-9) then (fX5_worstPlace_L68 Q T G U (fun z0 z1 z2 z3 z4 z5 z6 => fX5_worstPlace_L16 Q T G U fu z0 z1 z2 z3 z4 z5 z6) x1 x2 x3 x4 61 i49_0 g49_1 g49_2) else
  fX5_worstPlace_L68 Q T G U (fun z0 z1 z2 z3 z4 z5 z6 => fX5_worstPlace_L16 Q T G U fu z0 z1 z2 z3 z4 z5 z6) x1 x2 x3 x4 r49 i49_0 g49_1 g49_2
def fX5_worstPlace (Q : dk_O) (T : dk_O) (G : dk_O) (U : dk_O) : Option (Int32 × (Nat → Int32) × (Nat → Int32) × (Nat → Int32)) :=
  (fX3_fated T G).bind fun r4 =>
  fX5_worstPlace_L16 Q T G U 1000 r4 (-9) (-1) 0 U.1 (U.2 1) (U.2 2)
def fX5_fewestSearchers_L80 (Q : dk_O) (G : dk_O) (U : dk_O) (k2 : Int32 → (Nat → Int32) → (Nat → Int32) → (Nat → Int32) → Option (Int32 × (Nat → Int32) × (Nat → Int32) × (Nat → Int32))) (x1 : Int32) (x2 : Int32) (U_I : (Nat → Int32)) (U_1 : (Nat → Int32)) (U_2 : (Nat → Int32)) : Option (Int32 × (Nat → Int32) × (Nat → Int32) × (Nat → Int32)) :=
  if x2 = 0 then (k2 (x1 + 1) U_I U_1 U_2) else
  some (x1, U_I, U_1, U_2)
def fX5_fewestSearchers_L11 (Q : dk_O) (G : dk_O) (U : dk_O) (k2 : Int32 → (Nat → Int32) → (Nat → Int32) → (Nat → Int32) → Option (Int32 × (Nat → Int32) × (Nat → Int32) × (Nat → Int32))) : Nat → Int32 → Int32 → Int32 → (Nat → Int32) → (Nat → Int32) → (Nat → Int32) → Option (Int32 × (Nat → Int32) × (Nat → Int32) × (Nat → Int32))
  | 0, _, _, _, _, _, _ => none
  | fu+1, x1, x2, x3, U_I, U_1, U_2 =>
  if (G.1 0) ≤ x3 then (fX5_fewestSearchers_L80 Q G U k2 x1 x2 U_I U_1 U_2) else
  if x2 = 0 then (fX5_fewestSearchers_L80 Q G U k2 x1 x2 U_I U_1 U_2) else
  if x3 = (G.1 1) then (fX5_fewestSearchers_L11 Q G U k2 fu x1 x2 (x3 + 1) U_I U_1 U_2) else
  (fX3_begin (U_I, dk_upA (dk_upA U.2 1 U_1) 2 U_2) G x1 x3).bind fun (i43_0, g43_1, g43_2) =>
  (fX3_playTillKnown (i43_0, dk_upA (dk_upA U.2 1 g43_1) 2 g43_2) G).bind fun (r50, i50_0, g50_1, g50_2) =>
  if r50 = (-9) then (fX5_fewestSearchers_L11 Q G U k2 fu x1 0 (x3 + 1) i50_0 g50_1 g50_2) else
  (fX3_living (i50_0, dk_upA (dk_upA U.2 1 g50_1) 2 g50_2) G).bind fun r62 =>
  if r62 ≤ 0 then (fX5_fewestSearchers_L11 Q G U k2 fu x1 0 (x3 + 1) i50_0 g50_1 g50_2) else
  fX5_fewestSearchers_L11 Q G U k2 fu x1 1 (x3 + 1) i50_0 g50_1 g50_2
def fX5_fewestSearchers_L2 (Q : dk_O) (G : dk_O) (U : dk_O) : Nat → Int32 → (Nat → Int32) → (Nat → Int32) → (Nat → Int32) → Option (Int32 × (Nat → Int32) × (Nat → Int32) × (Nat → Int32))
  | 0, _, _, _, _ => none
  | fu+1, x1, U_I, U_1, U_2 =>
  if 4 < x1 then (some ((-9), U_I, U_1, U_2)) else
  fX5_fewestSearchers_L11 Q G U (fun z0 z1 z2 z3 => fX5_fewestSearchers_L2 Q G U fu z0 z1 z2 z3) 1000 x1 1 0 U_I U_1 U_2
def fX5_fewestSearchers (Q : dk_O) (G : dk_O) (U : dk_O) : Option (Int32 × (Nat → Int32) × (Nat → Int32) × (Nat → Int32)) :=
  fX5_fewestSearchers_L2 Q G U 1000 1 U.1 (U.2 1) (U.2 2)
def fX5_ask (Q : dk_O) (T : dk_O) (G : dk_O) (U : dk_O) (v1 : Int32) : Option (Int32 × (Nat → Int32) × (Nat → Int32) × (Nat → Int32)) :=
  if v1 = 0 then ((fX3_living T G).bind fun r52 =>
    some (r52, U.1, U.2 1, U.2 2)) else
  if v1 = 1 then (some (T.1 5, U.1, U.2 1, U.2 2)) else
  if v1 = 2 then (some (T.1 8, U.1, U.2 1, U.2 2)) else
  if v1 = 3 then ((fX3_mayBe T G).bind fun r76 =>
    some (r76, U.1, U.2 1, U.2 2)) else
  if v1 = 4 then ((fX3_isKnown T G).bind fun r84 =>
    if r84 = 0 then (some (0, U.1, U.2 1, U.2 2)) else
    some (1, U.1, U.2 1, U.2 2)) else
  if v1 = 5 then ((fX5_worstPlace Q T G U).bind fun (r97, i97_0, g97_1, g97_2) =>
    some (r97, i97_0, g97_1, g97_2)) else
  if v1 = 6 then ((fX5_fewestSearchers Q G U).bind fun (r102, i102_0, g102_1, g102_2) =>
    some (r102, i102_0, g102_1, g102_2)) else
  if v1 = 7 then ((fX3_fated T G).bind fun r110 =>
    some (r110, U.1, U.2 1, U.2 2)) else
  some ((-2), U.1, U.2 1, U.2 2)
def fX5_fate (Q : dk_O) (T : dk_O) (G : dk_O) (U : dk_O) (v1 : Int32) (v2 : Int32) : Option (Int32 × (Nat → Int32) × (Nat → Int32) × (Nat → Int32)) :=
  (fX1_isPlace G v1).bind fun r5 =>
  if r5 = 0 then (some ((-1), U.1, U.2 1, U.2 2)) else
  if v2 < 0 then (some ((-2), U.1, U.2 1, U.2 2)) else
  if v2 ≤ 2 then ((fX3_fated T G).bind fun r29 =>
    (fX5_holds r29 v1).bind fun r33 =>
    if r33 = 0 then (some ((-3), U.1, U.2 1, U.2 2)) else
    (fX3_suppose U T v1).bind fun (i51_0, g51_1, g51_2) =>
    (fX3_playTillKnown (i51_0, dk_upA (dk_upA U.2 1 g51_1) 2 g51_2) G).bind fun (r58, i58_0, g58_1, g58_2) =>
    if v2 = 0 then (some (r58, i58_0, g58_1, g58_2)) else
    if v2 = 1 then (some (i58_0 5, i58_0, g58_1, g58_2)) else
    (fX3_living (i58_0, dk_upA (dk_upA U.2 1 g58_1) 2 g58_2) G).bind fun r87 =>
    some (r87, i58_0, g58_1, g58_2)) else
  some ((-2), U.1, U.2 1, U.2 2)
def fX5_isOutsideOfSeen (v0 : Int32) (v1 : Int32) : Option (Int32) :=
  if v0 < 0 then (some 1) else
  if 20 < v0 then (some 1) else
  if v1 < 0 then (some 1) else
  if v1 ≤ 4 then (some 0) else
  some 1
def fX5_see (Q : dk_O) (E : dk_O) (v1 : Int32) (v2 : Int32) : Option (Int32 × (Nat → Int32) × (Nat → Int32) × (Nat → Int32)) :=
  (fX5_isOutsideOfSeen v1 v2).bind fun r2 =>
  if r2 = 0 then (if (E.1 2) < 6 then ((fX2_add E v1 v2).bind fun (r32, i32_0, g32_1, g32_2) =>
      some (r32, i32_0, g32_1, g32_2)) else
    some ((-4), E.1, E.2 0, E.2 1)) else
  some ((-2), E.1, E.2 0, E.2 1)
def fX5_unsee (Q : dk_O) (E : dk_O) : Option (Int32 × (Nat → Int32)) :=
  (fX2_clear E).bind fun (r4, i4_0) =>
  some (r4, i4_0)
def fX5_fitsAllSeen_L53 (Q : dk_O) (T : dk_O) (G : dk_O) (U : dk_O) (E : dk_O) (k34 : Int32 → Int32 → (Nat → Int32) → (Nat → Int32) → (Nat → Int32) → Option (Int32 × (Nat → Int32) × (Nat → Int32) × (Nat → Int32))) (x2 : Int32) (x3 : Int32) (U_I : (Nat → Int32)) (U_1 : (Nat → Int32)) (U_2 : (Nat → Int32)) : Option (Int32 × (Nat → Int32) × (Nat → Int32) × (Nat → Int32)) :=
  (fX3_living (U_I, dk_upA (dk_upA U.2 1 U_1) 2 U_2) G).bind fun r62 =>
  (fX2_speaksAgainst E x3 r62).bind fun r65 =>
  if r65 = 0 then (k34 x2 (x3 + 1) U_I U_1 U_2) else
  some (0, U_I, U_1, U_2)
def fX5_fitsAllSeen_L34 (Q : dk_O) (T : dk_O) (G : dk_O) (U : dk_O) (E : dk_O) : Nat → Int32 → Int32 → (Nat → Int32) → (Nat → Int32) → (Nat → Int32) → Option (Int32 × (Nat → Int32) × (Nat → Int32) × (Nat → Int32))
  | 0, _, _, _, _, _ => none
  | fu+1, x2, x3, U_I, U_1, U_2 =>
  if x2 < x3 then (some (1, U_I, U_1, U_2)) else
  if x3 ≤ 0 then (fX5_fitsAllSeen_L53 Q T G U E (fun z0 z1 z2 z3 z4 => fX5_fitsAllSeen_L34 Q T G U E fu z0 z1 z2 z3 z4) x2 x3 U_I U_1 U_2) else
  (fX3_playRound (U_I, dk_upA (dk_upA U.2 1 U_1) 2 U_2) G 15).bind fun (r49, i49_0, g49_1, g49_2) =>
  fX5_fitsAllSeen_L53 Q T G U E (fun z0 z1 z2 z3 z4 => fX5_fitsAllSeen_L34 Q T G U E fu z0 z1 z2 z3 z4) x2 x3 i49_0 g49_1 g49_2
def fX5_fitsAllSeen (Q : dk_O) (T : dk_O) (G : dk_O) (U : dk_O) (E : dk_O) (v1 : Int32) : Option (Int32 × (Nat → Int32) × (Nat → Int32) × (Nat → Int32)) :=
  if (E.1 2) = 0 then (some (1, U.1, U.2 1, U.2 2)) else
  (fX3_suppose U T v1).bind fun (i21_0, g21_1, g21_2) =>
  (fX2_mostRounds E).bind fun r28 =>
  fX5_fitsAllSeen_L34 Q T G U E 1000 r28 0 i21_0 g21_1 g21_2
def fX5_which_L12 (Q : dk_O) (T : dk_O) (G : dk_O) (U : dk_O) (E : dk_O) : Nat → Int32 → Int32 → Int32 → (Nat → Int32) → (Nat → Int32) → (Nat → Int32) → Option (Int32 × (Nat → Int32) × (Nat → Int32) × (Nat → Int32))
  | 0, _, _, _, _, _, _ => none
  | fu+1, x1, x2, x3, U_I, U_1, U_2 =>
  if 8 ≤ x3 then (some (x2, U_I, U_1, U_2)) else
  (fX5_holds x1 x3).bind fun r20 =>
  if r20 = 0 then (fX5_which_L12 Q T G U E fu x1 x2 (x3 + 1) U_I U_1 U_2) else
  (fX5_fitsAllSeen Q T G (U_I, dk_upA (dk_upA U.2 1 U_1) 2 U_2) E x3).bind fun (r28, i28_0, g28_1, g28_2) =>
  if r28 = 0 then (fX5_which_L12 Q T G U E fu x1 x2 (x3 + 1) i28_0 g28_1 g28_2) else
  fX5_which_L12 Q T G U E fu x1 (x2 ||| ((1 : Int32) <<< (x3 &&& 31))) (x3 + 1) i28_0 g28_1 g28_2
def fX5_which (Q : dk_O) (T : dk_O) (G : dk_O) (U : dk_O) (E : dk_O) : Option (Int32 × (Nat → Int32) × (Nat → Int32) × (Nat → Int32)) :=
  (fX3_fated T G).bind fun r4 =>
  fX5_which_L12 Q T G U E 1000 r4 0 0 U.1 (U.2 1) (U.2 2)
def fX5_visitedBy_L13 (Q : dk_O) (T : dk_O) (G : dk_O) (U : dk_O) : Nat → Int32 → Int32 → (Nat → Int32) → (Nat → Int32) → (Nat → Int32) → Option (Int32 × (Nat → Int32) × (Nat → Int32) × (Nat → Int32))
  | 0, _, _, _, _, _ => none
  | fu+1, x1, x2, U_I, U_1, U_2 =>
  if 6 ≤ x2 then ((fJ6_bitCount_0f7a4 (U_I 8)).bind fun r41 =>
    some (r41, U_I, U_1, U_2)) else
  (fX3_playRound (U_I, dk_upA (dk_upA U.2 1 U_1) 2 U_2) G x1).bind fun (r24, i24_0, g24_1, g24_2) =>
  fX5_visitedBy_L13 Q T G U fu x1 (x2 + 1) i24_0 g24_1 g24_2
def fX5_visitedBy (Q : dk_O) (T : dk_O) (G : dk_O) (U : dk_O) (v1 : Int32) : Option (Int32 × (Nat → Int32) × (Nat → Int32) × (Nat → Int32)) :=
  (fX3_become U T).bind fun (i8_0, g8_1, g8_2) =>
  fX5_visitedBy_L13 Q T G U 1000 v1 0 i8_0 g8_1 g8_2
def fX5_commonDivisor_L2  : Nat → Int32 → Int32 → Int32 → Option (Int32)
  | 0, _, _, _ => none
  | fu+1, x0, x1, x2 =>
  if x2 ≤ 1 then (some 1) else
  if x2 = 0 then none else
  if (x0 - x0 / x2 * x2) = 0 then (if x2 = 0 then none else
    if (x1 - x1 / x2 * x2) = 0 then (some x2) else
    fX5_commonDivisor_L2  fu x0 x1 (x2 + (-1))) else
  fX5_commonDivisor_L2  fu x0 x1 (x2 + (-1))
def fX5_commonDivisor (v0 : Int32) (v1 : Int32) : Option (Int32) :=
  fX5_commonDivisor_L2 1000 v0 v1 v1
def fX5_fraction (v0 : Int32) (v1 : Int32) (v2 : Int32) : Option (Int32) :=
  (fX5_commonDivisor v0 v1).bind fun r2 =>
  if v2 = 0 then (if r2 = 0 then none else
    some (v1 / r2)) else
  if r2 = 0 then none else
  some (v0 / r2)
def fX5_livingBehind_L14 (Q : dk_O) (T : dk_O) (G : dk_O) (U : dk_O) : Nat → Int32 → Int32 → (Nat → Int32) → (Nat → Int32) → (Nat → Int32) → Option (Int32 × (Nat → Int32) × (Nat → Int32) × (Nat → Int32))
  | 0, _, _, _, _, _ => none
  | fu+1, x2, x3, U_I, U_1, U_2 =>
  if x2 ≤ x3 then ((fX3_living (U_I, dk_upA (dk_upA U.2 1 U_1) 2 U_2) G).bind fun r39 =>
    some (r39, U_I, U_1, U_2)) else
  (fX3_playRound (U_I, dk_upA (dk_upA U.2 1 U_1) 2 U_2) G 15).bind fun (r25, i25_0, g25_1, g25_2) =>
  fX5_livingBehind_L14 Q T G U fu x2 (x3 + 1) i25_0 g25_1 g25_2
def fX5_livingBehind (Q : dk_O) (T : dk_O) (G : dk_O) (U : dk_O) (v1 : Int32) (v2 : Int32) : Option (Int32 × (Nat → Int32) × (Nat → Int32) × (Nat → Int32)) :=
  (fX3_suppose U T v1).bind fun (i9_0, g9_1, g9_2) =>
  fX5_livingBehind_L14 Q T G U 1000 v2 0 i9_0 g9_1 g9_2
def fX5_luck_L34 (Q : dk_O) (T : dk_O) (G : dk_O) (U : dk_O) : Nat → Int32 → Int32 → Int32 → Int32 → Int32 → Int32 → (Nat → Int32) → (Nat → Int32) → (Nat → Int32) → Option (Int32 × (Nat → Int32) × (Nat → Int32) × (Nat → Int32))
  | 0, _, _, _, _, _, _, _, _, _ => none
  | fu+1, x1, x2, x3, x4, x5, x6, U_I, U_1, U_2 =>
  if 8 ≤ x6 then ((fJ6_bitCount_0f7a4 x4).bind fun r75 =>
    (fX5_fraction x5 r75 x3).bind fun r79 =>
    some (r79, U_I, U_1, U_2)) else
  (fX5_holds x4 x6).bind fun r45 =>
  if r45 = 0 then (fX5_luck_L34 Q T G U fu x1 x2 x3 x4 x5 (x6 + 1) U_I U_1 U_2) else
  (fX5_livingBehind Q T G (U_I, dk_upA (dk_upA U.2 1 U_1) 2 U_2) x6 x1).bind fun (r55, i55_0, g55_1, g55_2) =>
  if r55 < x2 then (fX5_luck_L34 Q T G U fu x1 x2 x3 x4 x5 (x6 + 1) i55_0 g55_1 g55_2) else
  fX5_luck_L34 Q T G U fu x1 x2 x3 x4 (x5 + 1) (x6 + 1) i55_0 g55_1 g55_2
def fX5_luck (Q : dk_O) (T : dk_O) (G : dk_O) (U : dk_O) (v1 : Int32) (v2 : Int32) (v3 : Int32) : Option (Int32 × (Nat → Int32) × (Nat → Int32) × (Nat → Int32)) :=
  (fX5_isOutsideOfSeen v1 v2).bind fun r2 =>
  if r2 = 0 then ((fX3_fated T G).bind fun r15 =>
    if r15 = 0 then (some ((-3), U.1, U.2 1, U.2 2)) else
    fX5_luck_L34 Q T G U 1000 v1 v2 v3 r15 0 0 U.1 (U.2 1) (U.2 2)) else
  some ((-2), U.1, U.2 1, U.2 2)
def fX5_seed (sdQ : Int64) (Q : dk_O) (v1 : Int64) : Option (Int64 × Int64) :=
  some (sdQ, v1)
def fX5_drawn_L29 (sdQ : Int64) (Q : dk_O) (T : dk_O) (G : dk_O) (U : dk_O) : Nat → Int32 → Int32 → Int32 → Int64 → (Nat → Int32) → (Nat → Int32) → (Nat → Int32) → Option (Int32 × Int64 × (Nat → Int32) × (Nat → Int32) × (Nat → Int32))
  | 0, _, _, _, _, _, _, _ => none
  | fu+1, x1, x2, x3, Q_sd, U_I, U_1, U_2 =>
  if x1 ≤ x3 then (some (x2, Q_sd, U_I, U_1, U_2)) else
  (fX3_goIfPossible (U_I, dk_upA (dk_upA U.2 1 U_1) 2 U_2) G ((((((Q_sd * 6364136223846793005) + 1442695040888963407).toUInt64 >>> ((33 : Int32).toInt64.toUInt64 &&& Int64.toUInt64 63)).toInt64).toInt32) - (((((Q_sd * 6364136223846793005) + 1442695040888963407).toUInt64 >>> ((33 : Int32).toInt64.toUInt64 &&& Int64.toUInt64 63)).toInt64).toInt32) / 4 * 4) (((((((Q_sd * 6364136223846793005) + 1442695040888963407).toUInt64 >>> ((33 : Int32).toInt64.toUInt64 &&& Int64.toUInt64 63)).toInt64).toInt32) / 4) - ((((((Q_sd * 6364136223846793005) + 1442695040888963407).toUInt64 >>> ((33 : Int32).toInt64.toUInt64 &&& Int64.toUInt64 63)).toInt64).toInt32) / 4) / 10 * 10)).bind fun (r75, i75_0, g75_1, g75_2) =>
  (fX3_living (i75_0, dk_upA (dk_upA U.2 1 g75_1) 2 g75_2) G).bind fun r84 =>
  fX5_drawn_L29 sdQ Q T G U fu x1 (x2 + r84) (x3 + 1) ((Q_sd * 6364136223846793005) + 1442695040888963407) i75_0 g75_1 g75_2
def fX5_drawn (sdQ : Int64) (Q : dk_O) (T : dk_O) (G : dk_O) (U : dk_O) (v1 : Int32) : Option (Int32 × Int64 × (Nat → Int32) × (Nat → Int32) × (Nat → Int32)) :=
  if v1 < 1 then (some ((-2), sdQ, U.1, U.2 1, U.2 2)) else
  if v1 ≤ 60 then ((fX3_become U T).bind fun (i22_0, g22_1, g22_2) =>
    fX5_drawn_L29 sdQ Q T G U 1000 v1 0 0 sdQ i22_0 g22_1 g22_2) else
  some ((-2), sdQ, U.1, U.2 1, U.2 2)
def fX5_keep (Q : dk_O) (T : dk_O) (SB : Nat → dk_O) (v1 : Int32) : Option (Int32 × (Nat → Int32) × (Nat → dk_O)) :=
  if v1 < 0 then (some ((-1), Q.2 7, SB)) else
  if v1 < 2 then (if v1 = 0 then ((fX3_become (SB 0) T).bind fun (i21_0, g21_1, g21_2) =>
      (dk_wr (Q.2 7) 2 v1 1).bind fun f30 =>
      some (T.1 5, f30, dk_upB SB 0 (i21_0, dk_upA (dk_upA ((SB 0).2) 1 g21_1) 2 g21_2))) else
    if v1 = 1 then ((fX3_become (SB 1) T).bind fun (i21_0, g21_1, g21_2) =>
      (dk_wr (Q.2 7) 2 v1 1).bind fun f30 =>
      some (T.1 5, f30, dk_upB SB 1 (i21_0, dk_upA (dk_upA ((SB 1).2) 1 g21_1) 2 g21_2))) else
    none) else
  some ((-1), Q.2 7, SB)
def fX5_again (Q : dk_O) (T : dk_O) (SB : Nat → dk_O) (C : dk_O) (v1 : Int32) : Option (Int32 × (Nat → Int32) × (Nat → Int32) × (Nat → Int32) × (Nat → Int32)) :=
  if v1 < 0 then (some ((-1), T.1, T.2 1, T.2 2, C.1)) else
  if v1 < 2 then ((dk_rd (Q.2 7) 2 v1).bind fun d16 =>
    if d16 = 0 then (some ((-3), T.1, T.2 1, T.2 2, C.1)) else
    if v1 = 0 then ((fX3_become T (SB 0)).bind fun (i33_0, g33_1, g33_2) =>
      (fX0_clear C).bind fun i40_0 =>
      some (i33_0 5, i33_0, g33_1, g33_2, i40_0)) else
    if v1 = 1 then ((fX3_become T (SB 1)).bind fun (i33_0, g33_1, g33_2) =>
      (fX0_clear C).bind fun i40_0 =>
      some (i33_0 5, i33_0, g33_1, g33_2, i40_0)) else
    none) else
  some ((-1), T.1, T.2 1, T.2 2, C.1)
def fX5_count (Q : dk_O) (X : dk_O) (G : dk_O) (T : dk_O) (C : dk_O) (E : dk_O) (v1 : Int32) : Option (Int32) :=
  if v1 = 0 then (some (X.1 1)) else
  if v1 = 1 then (some (G.1 0)) else
  if v1 = 2 then (some (G.1 4)) else
  if v1 = 3 then (some (T.1 3)) else
  if v1 = 4 then (some (G.1 1)) else
  if v1 = 5 then (some (T.1 4)) else
  if v1 = 6 then (some (C.1 1)) else
  if v1 = 7 then (some (E.1 2)) else
  some (-2)
def fX6_layFirst_L32 (M : dk_O) (w : Nat → Int32) : Nat → Int32 → (Nat → Int32) → Option ((Nat → Int32))
  | 0, _, _ => none
  | fu+1, x4, w_row =>
  if 4 ≤ x4 then (some w_row) else
  (dk_wr w_row 21 (3 + x4) (M.1 5)).bind fun f47 =>
  fX6_layFirst_L32 M w fu (x4 + 1) f47
def fX6_layFirst_L3 (M : dk_O) (w : Nat → Int32) : Nat → Int32 → Int32 → Int32 → (Nat → Int32) → Option ((Nat → Int32))
  | 0, _, _, _, _ => none
  | fu+1, x2, x3, x4, w_row =>
  if 21 ≤ x4 then ((dk_wr w_row 21 0 x2).bind fun f24 =>
    (dk_wr f24 21 1 x3).bind fun f28 =>
    fX6_layFirst_L32 M w 1000 0 f28) else
  (dk_wr w_row 21 x4 0).bind fun f14 =>
  fX6_layFirst_L3 M w fu x2 x3 (x4 + 1) f14
def fX6_layFirst (M : dk_O) (w : Nat → Int32) (v2 : Int32) (v3 : Int32) : Option ((Nat → Int32)) :=
  fX6_layFirst_L3 M w 1000 v2 v3 0 w
def fX6_in (v0 : Int64) (v2 : Int64) (v4 : Int64) : Option (Int32) :=
  if (lg_cmp v0 v2) < 0 then (some 0) else
  if 0 < (lg_cmp v0 v4) then (some 0) else
  some 1
def fX6_has (v0 : Int32) (v1 : Int32) : Option (Int32) :=
  if ((v0 >>> (v1 &&& 31)) &&& 1) = 1 then (some 1) else
  some 0
def fX6_ones_L4  : Nat → Int32 → Int32 → Int32 → Option (Int32)
  | 0, _, _, _ => none
  | fu+1, x0, x1, x2 =>
  if 12 ≤ x2 then (some x1) else
  fX6_ones_L4  fu x0 (x1 + ((x0 >>> (x2 &&& 31)) &&& 1)) (x2 + 1)
def fX6_ones (v0 : Int32) : Option (Int32) :=
  fX6_ones_L4 1000 v0 0 0
def fX6_lay_L2 (w : Nat → Int32) (u : Nat → Int32) : Nat → Int32 → (Nat → Int32) → Option ((Nat → Int32))
  | 0, _, _ => none
  | fu+1, x2, u_row =>
  if 21 ≤ x2 then (some u_row) else
  (dk_rd w 21 x2).bind fun d12 =>
  (dk_wr u_row 21 x2 d12).bind fun f13 =>
  fX6_lay_L2 w u fu (x2 + 1) f13
def fX6_lay (w : Nat → Int32) (u : Nat → Int32) : Option ((Nat → Int32)) :=
  fX6_lay_L2 w u 1000 0 u
def fX6_noPlace (M : dk_O) (v1 : Int32) : Option (Int32) :=
  (fX6_in v1.toInt64 0 (((M.1 4) - 1).toInt64)).bind fun r10 =>
  if r10 = 0 then (some 1) else
  some 0
def fX6_noEdge (M : dk_O) (v1 : Int32) : Option (Int32) :=
  (fX6_in v1.toInt64 0 (((M.1 6) - 1).toInt64)).bind fun r10 =>
  if r10 = 0 then (some 1) else
  some 0
def fX6_lives (w : Nat → Int32) (v1 : Int32) : Option (Int32) :=
  (dk_rd w 21 (3 + v1)).bind fun d4 =>
  if d4 = 9 then (some 0) else
  some 1
def fX6_living_L4 (w : Nat → Int32) : Nat → Int32 → Int32 → Option (Int32)
  | 0, _, _ => none
  | fu+1, x1, x2 =>
  (dk_rd w 21 1).bind fun d7 =>
  if d7 ≤ x2 then (some x1) else
  (fX6_lives w x2).bind fun r14 =>
  if r14 = 0 then (fX6_living_L4 w fu (x1 + 0) (x2 + 1)) else
  fX6_living_L4 w fu (x1 + 1) (x2 + 1)
def fX6_living (w : Nat → Int32) : Option (Int32) :=
  fX6_living_L4 w 1000 0 0
def fX6_visited_L9 (M : dk_O) (w : Nat → Int32) : Nat → Int32 → Int32 → Option (Int32)
  | 0, _, _ => none
  | fu+1, x2, x3 =>
  if (M.1 6) ≤ x3 then (some x2) else
  (dk_rd w 21 (11 + x3)).bind fun d23 =>
  if d23 = 2 then ((dk_rd (M.2 7) 10 x3).bind fun d34 =>
    (dk_rd (M.2 8) 10 x3).bind fun d42 =>
    fX6_visited_L9 M w fu (x2 ||| (((1 : Int32) <<< (d34 &&& 31)) ||| ((1 : Int32) <<< (d42 &&& 31)))) (x3 + 1)) else
  fX6_visited_L9 M w fu (x2 ||| 0) (x3 + 1)
def fX6_visited (M : dk_O) (w : Nat → Int32) : Option (Int32) :=
  fX6_visited_L9 M w 1000 ((1 : Int32) <<< ((M.1 5) &&& 31)) 0
def fX6_mayBe (M : dk_O) (w : Nat → Int32) : Option (Int32) :=
  (fX6_visited M w).bind fun r10 =>
  some ((((1 : Int32) <<< ((M.1 4) &&& 31)) - 1) &&& (r10 ^^^ (-1)))
def fX6_isKnown (M : dk_O) (w : Nat → Int32) : Option (Int32) :=
  (fX6_mayBe M w).bind fun r2 =>
  (fX6_ones r2).bind fun r5 =>
  if r5 = 1 then (some 1) else
  some 0
def fX6_ends (M : dk_O) (v1 : Int32) (v2 : Int32) : Option (Int32) :=
  (dk_rd (M.2 7) 10 v1).bind fun d5 =>
  if d5 = v2 then (some 1) else
  (dk_rd (M.2 8) 10 v1).bind fun d15 =>
  if d15 = v2 then (some 1) else
  some 0
def fX6_beyond (M : dk_O) (v1 : Int32) (v2 : Int32) : Option (Int32) :=
  (dk_rd (M.2 7) 10 v1).bind fun d5 =>
  if d5 = v2 then ((dk_rd (M.2 8) 10 v1).bind fun d15 =>
    some d15) else
  (dk_rd (M.2 7) 10 v1).bind fun d24 =>
  some d24
def fX6_canStep_L114 (M : dk_O) (w : Nat → Int32) (x3 : Int32) (s0 : Int32) : Option (Int32) :=
  (dk_rd w 21 (11 + x3)).bind fun d121 =>
  if d121 = 2 then (some 1) else
  (dk_rd w 21 (11 + x3)).bind fun d131 =>
  if d131 = 0 then (if s0 = 0 then (some 1) else
    some 0) else
  some 0
def fX6_canStep (M : dk_O) (w : Nat → Int32) (v2 : Int32) (v3 : Int32) : Option (Int32) :=
  (dk_rd w 21 1).bind fun d3 =>
  if d3 ≤ v2 then (some 0) else
  if (M.1 6) ≤ v3 then (some 0) else
  (fX6_lives w v2).bind fun r17 =>
  if r17 = 0 then (some 0) else
  (dk_rd w 21 (3 + v2)).bind fun d29 =>
  (fX6_ends M v3 d29).bind fun r30 =>
  if r30 = 0 then (some 0) else
  (dk_rd w 21 (7 + v2)).bind fun d43 =>
  if d43 ≤ 0 then ((fX6_mayBe M w).bind fun r67 =>
    (fX6_ones r67).bind fun r74 =>
    if r74 = 1 then ((dk_rd (M.2 7) 10 v3).bind fun d88 =>
      (fX6_has r67 d88).bind fun r89 =>
      if r89 = 0 then ((dk_rd (M.2 8) 10 v3).bind fun d102 =>
        (fX6_has r67 d102).bind fun r103 =>
        if r103 = 0 then (fX6_canStep_L114 M w v3 0) else
        fX6_canStep_L114 M w v3 1) else
      fX6_canStep_L114 M w v3 1) else
    fX6_canStep_L114 M w v3 0) else
  (dk_rd w 21 (7 + v2)).bind fun d52 =>
  if d52 = (v3 + 1) then (some 1) else
  some 0
def fX6_stepOn_L113 (M : dk_O) (w : Nat → Int32) (w_row : (Nat → Int32)) : Option ((Nat → Int32)) :=
  (dk_rd w_row 21 2).bind fun d116 =>
  (dk_wr w_row 21 2 (d116 + 1)).bind fun f119 =>
  some f119
def fX6_stepOn_L112 (M : dk_O) (w : Nat → Int32) (s1 : Int32) (s2 : Int32) (w_row : (Nat → Int32)) : Option ((Nat → Int32)) :=
  (dk_wr w_row 21 s1 s2).bind fun f112 =>
  fX6_stepOn_L113 M w f112
def fX6_stepOn_L91 (M : dk_O) (w : Nat → Int32) (x2 : Int32) (x3 : Int32) (x4 : Int32) (s1 : Int32) (s2 : Int32) (w_row : (Nat → Int32)) : Option ((Nat → Int32)) :=
  (dk_wr w_row 21 s1 s2).bind fun f91 =>
  (dk_rd f91 21 0).bind fun d101 =>
  if x4 = d101 then (fX6_stepOn_L112 M w (7 + x2) 0 f91) else
  fX6_stepOn_L112 M w (7 + x2) (x3 + 1) f91
def fX6_stepOn (M : dk_O) (w : Nat → Int32) (v2 : Int32) (v3 : Int32) : Option ((Nat → Int32)) :=
  (dk_rd w 21 (3 + v2)).bind fun d6 =>
  (fX6_beyond M v3 d6).bind fun r7 =>
  (dk_rd w 21 (7 + v2)).bind fun d17 =>
  if d17 ≤ 0 then ((dk_rd w 21 (11 + v3)).bind fun d50 =>
    if d50 = 2 then ((dk_wr w 21 (3 + v2) r7).bind fun f61 =>
      fX6_stepOn_L113 M w f61) else
    (dk_wr w 21 (11 + v3) 1).bind fun f71 =>
    (dk_rd f71 21 0).bind fun d80 =>
    if r7 = d80 then (fX6_stepOn_L91 M w v2 v3 r7 (3 + v2) 9 f71) else
    fX6_stepOn_L91 M w v2 v3 r7 (3 + v2) r7 f71) else
  (dk_wr w 21 (7 + v2) 0).bind fun f27 =>
  (dk_wr f27 21 (11 + v3) 2).bind fun f34 =>
  (dk_wr f34 21 (3 + v2) r7).bind fun f41 =>
  fX6_stepOn_L113 M w f41
def fX6_unseenAt_L2 (M : dk_O) (w : Nat → Int32) : Nat → Int32 → Int32 → Option (Int32)
  | 0, _, _ => none
  | fu+1, x2, x3 =>
  if (M.1 6) ≤ x3 then (some (-9)) else
  (dk_rd w 21 (11 + x3)).bind fun d15 =>
  if d15 = 0 then ((fX6_ends M x3 x2).bind fun r22 =>
    if r22 = 0 then (fX6_unseenAt_L2 M w fu x2 (x3 + 1)) else
    some x3) else
  fX6_unseenAt_L2 M w fu x2 (x3 + 1)
def fX6_unseenAt (M : dk_O) (w : Nat → Int32) (v2 : Int32) : Option (Int32) :=
  fX6_unseenAt_L2 M w 1000 v2 0
def fX6_layFar_L203 (M : dk_O) (w : Nat → Int32) (k33 : Int32 → (Nat → Int32) → Option ((Nat → Int32))) (k44 : Int32 → Int32 → (Nat → Int32) → Option ((Nat → Int32))) (x3 : Int32) (x4 : Int32) (s1 : Int32) (s2 : Int32) (M_26 : (Nat → Int32)) : Option ((Nat → Int32)) :=
  (dk_wr M_26 8 s1 s2).bind fun f203 =>
  k44 x3 (x4 + 1) f203
def fX6_layFar_L133 (M : dk_O) (w : Nat → Int32) (k33 : Int32 → (Nat → Int32) → Option ((Nat → Int32))) (k44 : Int32 → Int32 → (Nat → Int32) → Option ((Nat → Int32))) (x3 : Int32) (x4 : Int32) (s1 : Int32) (s2 : Int32) (M_26 : (Nat → Int32)) : Option ((Nat → Int32)) :=
  (dk_wr M_26 8 s1 s2).bind fun f133 =>
  (dk_rd (M.2 8) 10 x4).bind fun d144 =>
  (dk_rd (M.2 7) 10 x4).bind fun d155 =>
  (dk_rd f133 8 d155).bind fun d156 =>
  (dk_rd (M.2 8) 10 x4).bind fun d169 =>
  (dk_rd f133 8 d169).bind fun d170 =>
  if d170 ≤ (d156 + 1) then ((dk_rd (M.2 8) 10 x4).bind fun d201 =>
    (dk_rd f133 8 d201).bind fun d202 =>
    fX6_layFar_L203 M w k33 k44 x3 x4 d144 d202 f133) else
  (dk_rd (M.2 7) 10 x4).bind fun d184 =>
  (dk_rd f133 8 d184).bind fun d185 =>
  fX6_layFar_L203 M w k33 k44 x3 x4 d144 (d185 + 1) f133
def fX6_layFar_L44 (M : dk_O) (w : Nat → Int32) (k33 : Int32 → (Nat → Int32) → Option ((Nat → Int32))) : Nat → Int32 → Int32 → (Nat → Int32) → Option ((Nat → Int32))
  | 0, _, _, _ => none
  | fu+1, x3, x4, M_26 =>
  if (M.1 6) ≤ x4 then (k33 (x3 + 1) M_26) else
  (dk_rd w 21 (11 + x4)).bind fun d59 =>
  if d59 = 2 then ((dk_rd (M.2 7) 10 x4).bind fun d74 =>
    (dk_rd (M.2 8) 10 x4).bind fun d85 =>
    (dk_rd M_26 8 d85).bind fun d86 =>
    (dk_rd (M.2 7) 10 x4).bind fun d99 =>
    (dk_rd M_26 8 d99).bind fun d100 =>
    if d100 ≤ (d86 + 1) then ((dk_rd (M.2 7) 10 x4).bind fun d131 =>
      (dk_rd M_26 8 d131).bind fun d132 =>
      fX6_layFar_L133 M w k33 (fun z0 z1 z2 => fX6_layFar_L44 M w k33 fu z0 z1 z2) x3 x4 d74 d132 M_26) else
    (dk_rd (M.2 8) 10 x4).bind fun d114 =>
    (dk_rd M_26 8 d114).bind fun d115 =>
    fX6_layFar_L133 M w k33 (fun z0 z1 z2 => fX6_layFar_L44 M w k33 fu z0 z1 z2) x3 x4 d74 (d115 + 1) M_26) else
  fX6_layFar_L44 M w k33 fu x3 (x4 + 1) M_26
def fX6_layFar_L33 (M : dk_O) (w : Nat → Int32) : Nat → Int32 → (Nat → Int32) → Option ((Nat → Int32))
  | 0, _, _ => none
  | fu+1, x3, M_26 =>
  if (M.1 4) ≤ x3 then (some M_26) else
  fX6_layFar_L44 M w (fun z0 z1 => fX6_layFar_L33 M w fu z0 z1) 1000 x3 0 M_26
def fX6_layFar_L24 (M : dk_O) (w : Nat → Int32) (k2 : Int32 → Int32 → (Nat → Int32) → Option ((Nat → Int32))) (x2 : Int32) (x3 : Int32) (s1 : Int32) (s2 : Int32) (M_26 : (Nat → Int32)) : Option ((Nat → Int32)) :=
  (dk_wr M_26 8 s1 s2).bind fun f24 =>
  k2 x2 (x3 + 1) f24
def fX6_layFar_L2 (M : dk_O) (w : Nat → Int32) : Nat → Int32 → Int32 → (Nat → Int32) → Option ((Nat → Int32))
  | 0, _, _, _ => none
  | fu+1, x2, x3, M_26 =>
  if 8 ≤ x3 then (fX6_layFar_L33 M w 1000 0 M_26) else
  if x3 = x2 then (fX6_layFar_L24 M w (fun z0 z1 z2 => fX6_layFar_L2 M w fu z0 z1 z2) x2 x3 x3 0 M_26) else
  fX6_layFar_L24 M w (fun z0 z1 z2 => fX6_layFar_L2 M w fu z0 z1 z2) x2 x3 x3 99 M_26
def fX6_layFar (M : dk_O) (w : Nat → Int32) (v2 : Int32) : Option ((Nat → Int32)) :=
  fX6_layFar_L2 M w 1000 v2 0 (M.2 26)
def fX6_towards_L110 (M : dk_O) (w : Nat → Int32) : Nat → Int32 → Int32 → (Nat → Int32) → Option (Int32 × (Nat → Int32))
  | 0, _, _, _ => none
  | fu+1, x2, x4, M_26 =>
  if (M.1 6) ≤ x4 then (some ((-9), M_26)) else
  (dk_rd w 21 (11 + x4)).bind fun d125 =>
  if d125 = 2 then ((fX6_ends (M.1, dk_upA M.2 26 M_26) x4 x2).bind fun r134 =>
    if r134 = 0 then (fX6_towards_L110 M w fu x2 (x4 + 1) M_26) else
    (fX6_beyond (M.1, dk_upA M.2 26 M_26) x4 x2).bind fun r148 =>
    (dk_rd M_26 8 r148).bind fun d151 =>
    (dk_rd M_26 8 x2).bind fun d157 =>
    if d157 ≤ d151 then (fX6_towards_L110 M w fu x2 (x4 + 1) M_26) else
    some (x4, M_26)) else
  fX6_towards_L110 M w fu x2 (x4 + 1) M_26
def fX6_towards_L50 (M : dk_O) (w : Nat → Int32) (k12 : Int32 → Int32 → Int32 → (Nat → Int32) → Option (Int32 × (Nat → Int32))) (x2 : Int32) (x3 : Int32) (x4 : Int32) (s0 : Int32) (M_26 : (Nat → Int32)) : Option (Int32 × (Nat → Int32)) :=
  if s0 = 0 then (k12 x2 x3 (x4 + 1) M_26) else
  if x3 = (-9) then (k12 x2 x4 (x4 + 1) M_26) else
  (dk_rd M_26 8 x4).bind fun d69 =>
  (dk_rd M_26 8 x3).bind fun d75 =>
  if d75 ≤ d69 then (k12 x2 x3 (x4 + 1) M_26) else
  k12 x2 x4 (x4 + 1) M_26
def fX6_towards_L12 (M : dk_O) (w : Nat → Int32) : Nat → Int32 → Int32 → Int32 → (Nat → Int32) → Option (Int32 × (Nat → Int32))
  | 0, _, _, _, _ => none
  | fu+1, x2, x3, x4, M_26 =>
  if (M.1 4) ≤ x4 then (if x3 = (-9) then (some ((-9), M_26)) else
    (fX6_layFar (M.1, dk_upA M.2 26 M_26) w x3).bind fun g104_0 =>
    fX6_towards_L110 M w 1000 x2 0 g104_0) else
  (dk_rd M_26 8 x4).bind fun d27 =>
  if 99 ≤ d27 then (fX6_towards_L50 M w (fun z0 z1 z2 z3 => fX6_towards_L12 M w fu z0 z1 z2 z3) x2 x3 x4 0 M_26) else
  (fX6_unseenAt (M.1, dk_upA M.2 26 M_26) w x4).bind fun r37 =>
  if r37 = (-9) then (fX6_towards_L50 M w (fun z0 z1 z2 z3 => fX6_towards_L12 M w fu z0 z1 z2 z3) x2 x3 x4 0 M_26) else
  fX6_towards_L50 M w (fun z0 z1 z2 z3 => fX6_towards_L12 M w fu z0 z1 z2 z3) x2 x3 x4 1 M_26
def fX6_towards (M : dk_O) (w : Nat → Int32) (v2 : Int32) : Option (Int32 × (Nat → Int32)) :=
  (fX6_layFar M w v2).bind fun g3_0 =>
  fX6_towards_L12 M w 1000 v2 (-9) 0 g3_0
def fX6_chosen (M : dk_O) (w : Nat → Int32) (v2 : Int32) : Option (Int32 × (Nat → Int32)) :=
  (fX6_lives w v2).bind fun r2 =>
  if r2 = 0 then (some ((-9), M.2 26)) else
  (dk_rd w 21 (7 + v2)).bind fun d16 =>
  if d16 ≤ 0 then ((fX6_isKnown M w).bind fun r31 =>
    if r31 = 0 then ((dk_rd w 21 (3 + v2)).bind fun d46 =>
      (fX6_unseenAt M w d46).bind fun r47 =>
      if r47 = (-9) then ((dk_rd w 21 (3 + v2)).bind fun d67 =>
        (fX6_towards M w d67).bind fun (r68, g68_0) =>
        some (r68, g68_0)) else
      some (r47, M.2 26)) else
    some ((-9), M.2 26)) else
  (dk_rd w 21 (7 + v2)).bind fun d25 =>
  some (d25 - 1, M.2 26)
def fX6_roundOn_L33 (M : dk_O) (w : Nat → Int32) (k4 : Int32 → Int32 → (Nat → Int32) → (Nat → Int32) → Option (Int32 × (Nat → Int32) × (Nat → Int32))) (x2 : Int32) (x3 : Int32) (s0 : Int32) (M_26 : (Nat → Int32)) (w_row : (Nat → Int32)) : Option (Int32 × (Nat → Int32) × (Nat → Int32)) :=
  if s0 = (-9) then (k4 x2 (x3 + 1) M_26 w_row) else
  (fX6_stepOn (M.1, dk_upA M.2 26 M_26) w_row x3 s0).bind fun g47_0 =>
  k4 (x2 + 1) (x3 + 1) M_26 g47_0
def fX6_roundOn_L4 (M : dk_O) (w : Nat → Int32) : Nat → Int32 → Int32 → (Nat → Int32) → (Nat → Int32) → Option (Int32 × (Nat → Int32) × (Nat → Int32))
  | 0, _, _, _, _ => none
  | fu+1, x2, x3, M_26, w_row =>
  (dk_rd w_row 21 1).bind fun d7 =>
  if d7 ≤ x3 then (some (x2, M_26, w_row)) else
  (fX6_has (M.1 27) x3).bind fun r16 =>
  if r16 = 0 then (fX6_roundOn_L33 M w (fun z0 z1 z2 z3 => fX6_roundOn_L4 M w fu z0 z1 z2 z3) x2 x3 (-9) M_26 w_row) else
  (fX6_chosen (M.1, dk_upA M.2 26 M_26) w_row x3).bind fun (r25, g25_0) =>
  fX6_roundOn_L33 M w (fun z0 z1 z2 z3 => fX6_roundOn_L4 M w fu z0 z1 z2 z3) x2 x3 r25 g25_0 w_row
def fX6_roundOn (M : dk_O) (w : Nat → Int32) : Option (Int32 × (Nat → Int32) × (Nat → Int32)) :=
  fX6_roundOn_L4 M w 1000 0 0 (M.2 26) w
def fX6_isFree_L13 (M : dk_O) (w : Nat → Int32) : Nat → Int32 → Int32 → Int32 → Option (Int32)
  | 0, _, _, _ => none
  | fu+1, x2, x3, x4 =>
  (dk_rd w 21 1).bind fun d17 =>
  if d17 ≤ x4 then (if x3 = 0 ∨ x3 = 1 then some x3 else none) else
  if x3 = 0 then (fX6_isFree_L13 M w fu x2 0 (x4 + 1)) else
  (dk_rd w 21 (3 + x4)).bind fun d30 =>
  if d30 = x2 then (fX6_isFree_L13 M w fu x2 0 (x4 + 1)) else
  fX6_isFree_L13 M w fu x2 1 (x4 + 1)
def fX6_isFree (M : dk_O) (w : Nat → Int32) (v2 : Int32) : Option (Int32) :=
  (fX6_mayBe M w).bind fun r2 =>
  (fX6_has r2 v2).bind fun r6 =>
  fX6_isFree_L13 M w 1000 v2 r6 0
def fX6_fated_L4 (M : dk_O) : Nat → Int32 → Int32 → Option (Int32)
  | 0, _, _ => none
  | fu+1, x1, x2 =>
  if (M.1 4) ≤ x2 then (some x1) else
  (fX6_isFree M (M.2 16) x2).bind fun r19 =>
  if r19 = 0 then (fX6_fated_L4 M fu (x1 ||| 0) (x2 + 1)) else
  fX6_fated_L4 M fu (x1 ||| ((1 : Int32) <<< (x2 &&& 31))) (x2 + 1)
def fX6_fated (M : dk_O) : Option (Int32) :=
  fX6_fated_L4 M 1000 0 0
def fX6_write (M : dk_O) (v1 : Int32) : Option (Int32 × (Nat → Int32) × (Nat → Int32)) :=
  (fX6_in v1.toInt64 0 255).bind fun r11 =>
  if r11 = 0 then (some ((-2), upd M.1 0 0, M.2 1)) else
  if (M.1 2) = 40 then (some ((-4), upd M.1 0 0, M.2 1)) else
  (dk_wr (M.2 1) 40 (M.1 2) v1).bind fun f41 =>
  some ((M.1 2) + 1, upd (upd M.1 0 0) 2 ((M.1 2) + 1), f41)
def fX6_wipe (M : dk_O) : Option (Int32 × (Nat → Int32)) :=
  some (M.1 2, upd (upd M.1 0 0) 2 0)
def fX6_figure_L28 (M : dk_O) (x1 : Int32) (s0 : Int32) (M_I : (Nat → Int32)) : Option (Int32 × (Nat → Int32)) :=
  (fX6_in s0.toInt64 0 9).bind fun r35 =>
  if r35 = 0 then (some ((-9), M_I)) else
  (fX6_has x1 s0).bind fun r43 =>
  if r43 = 0 then (some ((-9), M_I)) else
  some (s0, upd M_I 3 ((M_I 3) + 1))
def fX6_figure (M : dk_O) (v1 : Int32) : Option (Int32 × (Nat → Int32)) :=
  if (M.1 2) ≤ (M.1 3) then (fX6_figure_L28 M v1 (-9) M.1) else
  (dk_rd (M.2 1) 40 (M.1 3)).bind fun d19 =>
  fX6_figure_L28 M v1 (d19 - 48) M.1
def fX6_apart_L17 (M : dk_O) : Nat → Int32 → Int32 → Int32 → Option (Int32)
  | 0, _, _, _ => none
  | fu+1, x1, x2, x3 =>
  if (M.1 13) ≤ x3 then (some x2) else
  (dk_rd (M.2 14) 10 x3).bind fun d31 =>
  if d31 = x1 then ((dk_rd (M.2 15) 10 x3).bind fun d42 =>
    fX6_apart_L17 M fu x1 (x2 &&& (((1 : Int32) <<< (d42 &&& 31)) ^^^ (-1))) (x3 + 1)) else
  (dk_rd (M.2 15) 10 x3).bind fun d54 =>
  if d54 = x1 then ((dk_rd (M.2 14) 10 x3).bind fun d65 =>
    fX6_apart_L17 M fu x1 (x2 &&& (((1 : Int32) <<< (d65 &&& 31)) ^^^ (-1))) (x3 + 1)) else
  fX6_apart_L17 M fu x1 (x2 &&& (-1)) (x3 + 1)
def fX6_apart (M : dk_O) (v1 : Int32) : Option (Int32) :=
  fX6_apart_L17 M 1000 v1 ((((1 : Int32) <<< ((M.1 9) &&& 31)) - 1) &&& (((1 : Int32) <<< (v1 &&& 31)) ^^^ (-1))) 0
def fX6_readEdge_L101 (M : dk_O) (x2 : Int32) (s0 : Int32) (M_I : (Nat → Int32)) (M_14 : (Nat → Int32)) (M_15 : (Nat → Int32)) : Option (Int32 × (Nat → Int32) × (Nat → Int32) × (Nat → Int32)) :=
  if s0 = (-9) then (some (0, M_I, M_14, M_15)) else
  (dk_wr M_14 10 (M_I 13) x2).bind fun f119 =>
  (dk_wr M_15 10 (M_I 13) s0).bind fun f129 =>
  some (1, upd M_I 13 ((M_I 13) + 1), f119, f129)
def fX6_readEdge_L4 (M : dk_O) : Nat → Int32 → Int32 → (Nat → Int32) → (Nat → Int32) → (Nat → Int32) → Option (Int32 × (Nat → Int32) × (Nat → Int32) × (Nat → Int32))
  | 0, _, _, _, _, _ => none
  | fu+1, x1, x2, M_I, M_14, M_15 =>
  if (M_I 9) ≤ x2 then ((dk_rd (M.2 1) 40 (M_I 3)).bind fun d44 =>
    if d44 = 101 then (if (M_I 13) = 10 then (some (0, M_I, M_14, M_15)) else
      if x1 = 0 then (some (0, M_I, M_14, M_15)) else
      (fX6_figure (upd M_I 3 ((M_I 3) + 1), dk_upA (dk_upA M.2 14 M_14) 15 M_15) x1).bind fun (r77, i77_0) =>
      if r77 = (-9) then (fX6_readEdge_L101 M r77 (-9) i77_0 M_14 M_15) else
      (fX6_apart (i77_0, dk_upA (dk_upA M.2 14 M_14) 15 M_15) r77).bind fun r95 =>
      (fX6_figure (i77_0, dk_upA (dk_upA M.2 14 M_14) 15 M_15) r95).bind fun (r98, i98_0) =>
      fX6_readEdge_L101 M r77 r98 i98_0 M_14 M_15) else
    some (0, M_I, M_14, M_15)) else
  (fX6_apart (M_I, dk_upA (dk_upA M.2 14 M_14) 15 M_15) x2).bind fun r15 =>
  if r15 = 0 then (fX6_readEdge_L4 M fu (x1 ||| 0) (x2 + 1) M_I M_14 M_15) else
  fX6_readEdge_L4 M fu (x1 ||| ((1 : Int32) <<< (x2 &&& 31))) (x2 + 1) M_I M_14 M_15
def fX6_readEdge (M : dk_O) : Option (Int32 × (Nat → Int32) × (Nat → Int32) × (Nat → Int32)) :=
  fX6_readEdge_L4 M 1000 0 0 M.1 (M.2 14) (M.2 15)
def fX6_readNet_L153 (M : dk_O) : Nat → (Nat → Int32) → (Nat → Int32) → (Nat → Int32) → Option (Int32 × (Nat → Int32) × (Nat → Int32) × (Nat → Int32))
  | 0, _, _, _ => none
  | fu+1, M_I, M_14, M_15 =>
  if (M_I 2) ≤ (M_I 3) then (some ((-9), M_I, M_14, M_15)) else
  (fX6_readEdge (M_I, dk_upA (dk_upA M.2 14 M_14) 15 M_15)).bind fun (r165, i165_0, g165_1, g165_2) =>
  if r165 = 0 then (some (i165_0 3, i165_0, g165_1, g165_2)) else
  fX6_readNet_L153 M fu i165_0 g165_1 g165_2
def fX6_readNet_L136 (M : dk_O) (s1 : Int32) (M_I : (Nat → Int32)) (M_14 : (Nat → Int32)) (M_15 : (Nat → Int32)) : Option (Int32 × (Nat → Int32) × (Nat → Int32) × (Nat → Int32)) :=
  if s1 = (-9) then (some (M_I 3, upd M_I 12 s1, M_14, M_15)) else
  fX6_readNet_L153 M 1000 (upd M_I 12 s1) M_14 M_15
def fX6_readNet_L112 (M : dk_O) (s1 : Int32) (M_I : (Nat → Int32)) (M_14 : (Nat → Int32)) (M_15 : (Nat → Int32)) : Option (Int32 × (Nat → Int32) × (Nat → Int32) × (Nat → Int32)) :=
  if s1 = (-9) then (fX6_readNet_L136 M (-9) (upd M_I 11 s1) M_14 M_15) else
  (fX6_figure (upd M_I 11 s1, dk_upA (dk_upA M.2 14 M_14) 15 M_15) 30).bind fun (r133, i133_0) =>
  fX6_readNet_L136 M r133 i133_0 M_14 M_15
def fX6_readNet_L73 (M : dk_O) (s1 : Int32) (M_I : (Nat → Int32)) (M_14 : (Nat → Int32)) (M_15 : (Nat → Int32)) : Option (Int32 × (Nat → Int32) × (Nat → Int32) × (Nat → Int32)) :=
  if s1 = (-9) then (fX6_readNet_L112 M (-9) (upd M_I 10 s1) M_14 M_15) else
  (fX6_figure (upd M_I 10 s1, dk_upA (dk_upA M.2 14 M_14) 15 M_15) ((((1 : Int32) <<< ((M_I 9) &&& 31)) - 1) &&& (((1 : Int32) <<< (s1 &&& 31)) ^^^ (-1)))).bind fun (r109, i109_0) =>
  fX6_readNet_L112 M r109 i109_0 M_14 M_15
def fX6_readNet (M : dk_O) : Option (Int32 × (Nat → Int32) × (Nat → Int32) × (Nat → Int32)) :=
  if (M.1 2) = 0 then (some (0, upd (upd M.1 3 0) 13 0, M.2 14, M.2 15)) else
  (dk_rd (M.2 1) 40 0).bind fun d22 =>
  if d22 = 78 then ((fX6_figure (upd (upd (upd M.1 3 0) 13 0) 3 1, M.2) 508).bind fun (r40, i40_0) =>
    if r40 = (-9) then (fX6_readNet_L73 M (-9) (upd i40_0 9 r40) (M.2 14) (M.2 15)) else
    (fX6_figure (upd i40_0 9 r40, M.2) (((1 : Int32) <<< (r40 &&& 31)) - 1)).bind fun (r70, i70_0) =>
    fX6_readNet_L73 M r70 i70_0 (M.2 14) (M.2 15)) else
  some (0, upd (upd M.1 3 0) 13 0, M.2 14, M.2 15)
def fX6_fault (M : dk_O) : Option (Int32 × (Nat → Int32) × (Nat → Int32) × (Nat → Int32)) :=
  (fX6_readNet (upd M.1 0 0, M.2)).bind fun (r6, i6_0, g6_1, g6_2) =>
  some (r6, i6_0, g6_1, g6_2)
def fX6_net_L122 (M : dk_O) (k43 : Int32 → (Nat → Int32) → (Nat → Int32) → (Nat → Int32) → (Nat → Int32) → (Nat → Int32) → (Nat → Int32) → (Nat → Int32) → Option (Int32 × (Nat → Int32) × (Nat → Int32) × (Nat → Int32) × (Nat → Int32) × (Nat → Int32) × (Nat → Int32) × (Nat → Int32))) (x1 : Int32) (s1 : Int32) (s2 : Int32) (M_I : (Nat → Int32)) (M_7 : (Nat → Int32)) (M_8 : (Nat → Int32)) (M_16 : (Nat → Int32)) (M_14 : (Nat → Int32)) (M_15 : (Nat → Int32)) (M_21 : (Nat → Int32)) : Option (Int32 × (Nat → Int32) × (Nat → Int32) × (Nat → Int32) × (Nat → Int32) × (Nat → Int32) × (Nat → Int32) × (Nat → Int32)) :=
  (dk_wr M_8 10 s1 s2).bind fun f122 =>
  k43 (x1 + 1) M_I M_7 f122 M_16 M_14 M_15 M_21
def fX6_net_L86 (M : dk_O) (k43 : Int32 → (Nat → Int32) → (Nat → Int32) → (Nat → Int32) → (Nat → Int32) → (Nat → Int32) → (Nat → Int32) → (Nat → Int32) → Option (Int32 × (Nat → Int32) × (Nat → Int32) × (Nat → Int32) × (Nat → Int32) × (Nat → Int32) × (Nat → Int32) × (Nat → Int32))) (x1 : Int32) (s1 : Int32) (s2 : Int32) (M_I : (Nat → Int32)) (M_7 : (Nat → Int32)) (M_8 : (Nat → Int32)) (M_16 : (Nat → Int32)) (M_14 : (Nat → Int32)) (M_15 : (Nat → Int32)) (M_21 : (Nat → Int32)) : Option (Int32 × (Nat → Int32) × (Nat → Int32) × (Nat → Int32) × (Nat → Int32) × (Nat → Int32) × (Nat → Int32) × (Nat → Int32)) :=
  (dk_wr M_7 10 s1 s2).bind fun f86 =>
  (dk_rd M_14 10 x1).bind fun d97 =>
  (dk_rd M_15 10 x1).bind fun d103 =>
  if d103 ≤ d97 then ((dk_rd M_14 10 x1).bind fun d121 =>
    fX6_net_L122 M k43 x1 x1 d121 M_I f86 M_8 M_16 M_14 M_15 M_21) else
  (dk_rd M_15 10 x1).bind fun d112 =>
  fX6_net_L122 M k43 x1 x1 d112 M_I f86 M_8 M_16 M_14 M_15 M_21
def fX6_net_L43 (M : dk_O) : Nat → Int32 → (Nat → Int32) → (Nat → Int32) → (Nat → Int32) → (Nat → Int32) → (Nat → Int32) → (Nat → Int32) → (Nat → Int32) → Option (Int32 × (Nat → Int32) × (Nat → Int32) × (Nat → Int32) × (Nat → Int32) × (Nat → Int32) × (Nat → Int32) × (Nat → Int32))
  | 0, _, _, _, _, _, _, _, _ => none
  | fu+1, x1, M_I, M_7, M_8, M_16, M_14, M_15, M_21 =>
  if (M_I 6) ≤ x1 then ((fX6_layFirst (M_I, dk_upA (dk_upA (dk_upA (dk_upA (dk_upA (dk_upA M.2 7 M_7) 8 M_8) 16 M_16) 14 M_14) 15 M_15) 21 M_21) M_16 (M_I 11) (M_I 12)).bind fun g142_0 =>
    (dk_wr M_21 2 0 0).bind fun f156 =>
    (dk_wr f156 2 1 0).bind fun f163 =>
    some (M_I 6, upd M_I 19 0, M_7, M_8, g142_0, M_14, M_15, f163)) else
  (dk_rd M_14 10 x1).bind fun d61 =>
  (dk_rd M_15 10 x1).bind fun d67 =>
  if d67 ≤ d61 then ((dk_rd M_15 10 x1).bind fun d85 =>
    fX6_net_L86 M (fun z0 z1 z2 z3 z4 z5 z6 z7 => fX6_net_L43 M fu z0 z1 z2 z3 z4 z5 z6 z7) x1 x1 d85 M_I M_7 M_8 M_16 M_14 M_15 M_21) else
  (dk_rd M_14 10 x1).bind fun d76 =>
  fX6_net_L86 M (fun z0 z1 z2 z3 z4 z5 z6 z7 => fX6_net_L43 M fu z0 z1 z2 z3 z4 z5 z6 z7) x1 x1 d76 M_I M_7 M_8 M_16 M_14 M_15 M_21
def fX6_net (M : dk_O) : Option (Int32 × (Nat → Int32) × (Nat → Int32) × (Nat → Int32) × (Nat → Int32) × (Nat → Int32) × (Nat → Int32) × (Nat → Int32)) :=
  (fX6_readNet (upd M.1 0 0, M.2)).bind fun (r6, i6_0, g6_1, g6_2) =>
  if r6 = (-9) then (fX6_net_L43 M 1000 0 (upd (upd (upd i6_0 4 (i6_0 9)) 5 (i6_0 10)) 6 (i6_0 13)) (M.2 7) (M.2 8) (M.2 16) g6_1 g6_2 (M.2 21)) else
  some ((-3), i6_0, M.2 7, M.2 8, M.2 16, g6_1, g6_2, M.2 21)
def fX6_edge_L21 (M : dk_O) : Nat → Int32 → Int32 → Int32 → Int32 → (Nat → Int32) → Option (Int32 × (Nat → Int32))
  | 0, _, _, _, _, _ => none
  | fu+1, x1, x2, x3, x4, M_I =>
  (dk_rd (M.2 16) 21 1).bind fun d28 =>
  if d28 ≤ x4 then (if x2 = 0 then ((dk_rd (M.2 7) 10 x1).bind fun d70 =>
      some (d70, M_I)) else
    if x2 = 1 then ((dk_rd (M.2 8) 10 x1).bind fun d84 =>
      some (d84, M_I)) else
    if x2 = 2 then ((dk_rd (M.2 16) 21 (11 + x1)).bind fun d101 =>
      some (d101, M_I)) else
    if x2 = 3 then (some (x3, M_I)) else
    some ((-2), M_I)) else
  (dk_rd (M.2 16) 21 (7 + x4)).bind fun d41 =>
  if d41 = (x1 + 1) then (fX6_edge_L21 M fu x1 x2 x4 (x4 + 1) M_I) else
  fX6_edge_L21 M fu x1 x2 x3 (x4 + 1) M_I
def fX6_edge (M : dk_O) (v1 : Int32) (v2 : Int32) : Option (Int32 × (Nat → Int32)) :=
  (fX6_noEdge (upd M.1 0 0, M.2) v1).bind fun r7 =>
  if r7 = 0 then (fX6_edge_L21 M 1000 v1 v2 (-9) 0 (upd M.1 0 0)) else
  some ((-1), upd M.1 0 0)
def fX6_noSearcher (M : dk_O) (v1 : Int32) : Option (Int32) :=
  (dk_rd (M.2 16) 21 1).bind fun d8 =>
  (fX6_in v1.toInt64 0 ((d8 - 1).toInt64)).bind fun r12 =>
  if r12 = 0 then (some 1) else
  some 0
def fX6_steps_L4 (M : dk_O) : Nat → Int32 → Int32 → Int32 → Option (Int32)
  | 0, _, _, _ => none
  | fu+1, x1, x2, x3 =>
  if (M.1 6) ≤ x3 then (some x2) else
  (fX6_canStep M (M.2 16) x1 x3).bind fun r20 =>
  if r20 = 0 then (fX6_steps_L4 M fu x1 (x2 ||| 0) (x3 + 1)) else
  fX6_steps_L4 M fu x1 (x2 ||| ((1 : Int32) <<< (x3 &&& 31))) (x3 + 1)
def fX6_steps (M : dk_O) (v1 : Int32) : Option (Int32) :=
  fX6_steps_L4 M 1000 v1 0 0
def fX6_searcher (M : dk_O) (v1 : Int32) (v2 : Int32) : Option (Int32 × (Nat → Int32) × (Nat → Int32)) :=
  (fX6_noSearcher (upd M.1 0 0, M.2) v1).bind fun r7 =>
  if r7 = 0 then (if v2 = 0 then ((fX6_lives (M.2 16) v1).bind fun r53 =>
      if r53 = 0 then (some ((-9), upd M.1 0 0, M.2 26)) else
      (dk_rd (M.2 16) 21 (3 + v1)).bind fun d66 =>
      some (d66, upd M.1 0 0, M.2 26)) else
    if v2 = 1 then ((dk_rd (M.2 16) 21 (7 + v1)).bind fun d81 =>
      if d81 ≤ 0 then (some ((-9), upd M.1 0 0, M.2 26)) else
      (dk_rd (M.2 16) 21 (7 + v1)).bind fun d93 =>
      some (d93 - 1, upd M.1 0 0, M.2 26)) else
    if v2 = 2 then ((fX6_steps (upd M.1 0 0, M.2) v1).bind fun r104 =>
      some (r104, upd M.1 0 0, M.2 26)) else
    if v2 = 3 then ((fX6_chosen (upd M.1 0 0, M.2) (M.2 16) v1).bind fun (r114, g114_0) =>
      some (r114, upd M.1 0 0, g114_0)) else
    some ((-2), upd M.1 0 0, M.2 26)) else
  some ((-1), upd M.1 0 0, M.2 26)
def fX6_note_L51 (M : dk_O) : Nat → Int32 → (Nat → Int32) → (Nat → Int32) → Option ((Nat → Int32) × (Nat → Int32))
  | 0, _, _, _ => none
  | fu+1, x1, M_I, M_18 =>
  if 21 ≤ x1 then (some (upd M_I 19 ((M_I 19) + 1), M_18)) else
  (dk_rd (M.2 16) 21 x1).bind fun d75 =>
  (dk_wr M_18 294 ((21 * (M_I 19)) + x1) d75).bind fun f76 =>
  fX6_note_L51 M fu (x1 + 1) M_I f76
def fX6_note_L11 (M : dk_O) : Nat → Int32 → (Nat → Int32) → (Nat → Int32) → Option ((Nat → Int32) × (Nat → Int32))
  | 0, _, _, _ => none
  | fu+1, x1, M_I, M_18 =>
  if 273 ≤ x1 then (fX6_note_L51 M 1000 0 (upd M_I 19 ((M_I 19) - 1)) M_18) else
  (dk_rd M_18 294 (x1 + 21)).bind fun d31 =>
  (dk_wr M_18 294 x1 d31).bind fun f32 =>
  fX6_note_L11 M fu (x1 + 1) M_I f32
def fX6_note (M : dk_O) : Option ((Nat → Int32) × (Nat → Int32)) :=
  if (M.1 19) = 14 then (fX6_note_L11 M 1000 0 M.1 (M.2 18)) else
  fX6_note_L51 M 1000 0 M.1 (M.2 18)
def fX6_step (M : dk_O) (v1 : Int32) (v2 : Int32) : Option (Int32 × (Nat → Int32) × (Nat → Int32) × (Nat → Int32)) :=
  (fX6_noSearcher (upd M.1 0 0, M.2) v1).bind fun r7 =>
  if r7 = 0 then ((fX6_noEdge (upd M.1 0 0, M.2) v2).bind fun r15 =>
    if r15 = 0 then ((fX6_canStep (upd M.1 0 0, M.2) (M.2 16) v1 v2).bind fun r30 =>
      if r30 = 0 then (some ((-3), upd M.1 0 0, M.2 16, M.2 18)) else
      (fX6_note (upd M.1 0 0, M.2)).bind fun (i40_0, g40_1) =>
      (fX6_stepOn (i40_0, dk_upA M.2 18 g40_1) (M.2 16) v1 v2).bind fun g50_0 =>
      (fX6_lives g50_0 v1).bind fun r58 =>
      if r58 = 0 then (some ((-9), i40_0, g50_0, g40_1)) else
      (dk_rd g50_0 21 (3 + v1)).bind fun d71 =>
      some (d71, i40_0, g50_0, g40_1)) else
    some ((-1), upd M.1 0 0, M.2 16, M.2 18)) else
  some ((-1), upd M.1 0 0, M.2 16, M.2 18)
def fX6_round (M : dk_O) : Option (Int32 × (Nat → Int32) × (Nat → Int32) × (Nat → Int32) × (Nat → Int32)) :=
  (fX6_living (M.2 16)).bind fun r9 =>
  if r9 = 0 then (some ((-3), upd M.1 0 0, M.2 26, M.2 16, M.2 18)) else
  (fX6_note (upd M.1 0 0, M.2)).bind fun (i19_0, g19_1) =>
  (fX6_roundOn (i19_0, dk_upA M.2 18 g19_1) (M.2 16)).bind fun (r27, g27_0, g27_1) =>
  some (r27, i19_0, g27_0, g27_1, g19_1)
def fX6_join (M : dk_O) : Option (Int32 × (Nat → Int32) × (Nat → Int32) × (Nat → Int32)) :=
  (dk_rd (M.2 16) 21 1).bind fun d10 =>
  if d10 = 4 then (some ((-4), upd M.1 0 0, M.2 16, M.2 18)) else
  (fX6_note (upd M.1 0 0, M.2)).bind fun (i19_0, g19_1) =>
  (dk_rd (M.2 16) 21 1).bind fun d27 =>
  (dk_wr (M.2 16) 21 (3 + d27) (i19_0 5)).bind fun f40 =>
  (dk_wr f40 21 (7 + d27) 0).bind fun f50 =>
  (dk_rd f50 21 1).bind fun d57 =>
  (dk_wr f50 21 1 (d57 + 1)).bind fun f60 =>
  some (d27, i19_0, f60, g19_1)
def fX6_hide (M : dk_O) (v1 : Int32) : Option (Int32 × (Nat → Int32) × (Nat → Int32) × (Nat → Int32)) :=
  (fX6_noPlace (upd M.1 0 0, M.2) v1).bind fun r7 =>
  if r7 = 0 then ((dk_rd (M.2 16) 21 0).bind fun d21 =>
    if v1 = d21 then (some ((-3), upd M.1 0 0, M.2 16, M.2 18)) else
    (fX6_isFree (upd M.1 0 0, M.2) (M.2 16) v1).bind fun r31 =>
    if r31 = 0 then (some ((-3), upd M.1 0 0, M.2 16, M.2 18)) else
    (fX6_note (upd M.1 0 0, M.2)).bind fun (i41_0, g41_1) =>
    (dk_rd (M.2 16) 21 0).bind fun d49 =>
    (dk_wr (M.2 16) 21 0 v1).bind fun f57 =>
    some (d49, i41_0, f57, g41_1)) else
  some ((-1), upd M.1 0 0, M.2 16, M.2 18)
def fX6_undo_L27 (M : dk_O) : Nat → Int32 → (Nat → Int32) → (Nat → Int32) → Option (Int32 × (Nat → Int32) × (Nat → Int32))
  | 0, _, _, _ => none
  | fu+1, x1, M_I, M_16 =>
  if 21 ≤ x1 then (some (M_I 19, M_I, M_16)) else
  (dk_rd (M.2 18) 294 ((21 * (M_I 19)) + x1)).bind fun d51 =>
  (dk_wr M_16 21 x1 d51).bind fun f52 =>
  fX6_undo_L27 M fu (x1 + 1) M_I f52
def fX6_undo (M : dk_O) : Option (Int32 × (Nat → Int32) × (Nat → Int32)) :=
  if (M.1 19) = 0 then (some ((-3), upd M.1 0 0, M.2 16)) else
  fX6_undo_L27 M 1000 0 (upd (upd M.1 0 0) 19 ((M.1 19) - 1)) (M.2 16)
def fX6_runTrial_L2 (M : dk_O) : Nat → Int32 → (Nat → Int32) → (Nat → Int32) → Option (Int32 × (Nat → Int32) × (Nat → Int32))
  | 0, _, _, _ => none
  | fu+1, x1, M_26, M_17 =>
  if 61 ≤ x1 then (some ((-9), M_26, M_17)) else
  (fX6_isKnown (M.1, dk_upA (dk_upA M.2 26 M_26) 17 M_17) M_17).bind fun r13 =>
  if r13 = 0 then ((fX6_roundOn (M.1, dk_upA (dk_upA M.2 26 M_26) 17 M_17) M_17).bind fun (r26, g26_0, g26_1) =>
    fX6_runTrial_L2 M fu (x1 + 1) g26_0 g26_1) else
  some (x1, M_26, M_17)
def fX6_runTrial (M : dk_O) : Option (Int32 × (Nat → Int32) × (Nat → Int32)) :=
  fX6_runTrial_L2 M 1000 0 (M.2 26) (M.2 17)
def fX6_worst_L78 (M : dk_O) (k7 : Int32 → Int32 → Int32 → (Nat → Int32) → (Nat → Int32) → Option (Int32 × (Nat → Int32) × (Nat → Int32))) (x2 : Int32) (x3 : Int32) (x4 : Int32) (s0 : Int32) (M_26 : (Nat → Int32)) (M_17 : (Nat → Int32)) : Option (Int32 × (Nat → Int32) × (Nat → Int32)) :=
  if x4 ≤ x2 then (k7 s0 x2 (x3 + 1) M_26 M_17) else
  k7 s0 x4 (x3 + 1) M_26 M_17
def fX6_worst_L65 (M : dk_O) (k7 : Int32 → Int32 → Int32 → (Nat → Int32) → (Nat → Int32) → Option (Int32 × (Nat → Int32) × (Nat → Int32))) (x1 : Int32) (x2 : Int32) (x3 : Int32) (s0 : Int32) (M_26 : (Nat → Int32)) (M_17 : (Nat → Int32)) : Option (Int32 × (Nat → Int32) × (Nat → Int32)) :=
  if s0 ≤ x2 then (fX6_worst_L78 M k7 x2 x3 s0 x1 M_26 M_17) else
  fX6_worst_L78 M k7 x2 x3 s0 x3 M_26 M_17
def fX6_worst_L7 (M : dk_O) : Nat → Int32 → Int32 → Int32 → (Nat → Int32) → (Nat → Int32) → Option (Int32 × (Nat → Int32) × (Nat → Int32))
  | 0, _, _, _, _, _ => none
  | fu+1, x1, x2, x3, M_26, M_17 =>
  if (M.1 4) ≤ x3 then (some (x1, M_26, M_17)) else
  (fX6_isFree (M.1, dk_upA (dk_upA M.2 26 M_26) 17 M_17) (M.2 16) x3).bind fun r21 =>
  if r21 = 0 then (fX6_worst_L7 M fu x1 x2 (x3 + 1) M_26 M_17) else
  (fX6_lay (M.2 16) M_17).bind fun g35_0 =>
  (dk_wr g35_0 21 0 x3).bind fun f44 =>
  (fX6_runTrial (M.1, dk_upA (dk_upA M.2 26 M_26) 17 f44)).bind fun (r46, g46_0, g46_1) =>
  if r46 = (-9) then (fX6_worst_L65 M (fun z0 z1 z2 z3 z4 => fX6_worst_L7 M fu z0 z1 z2 z3 z4) x1 x2 x3 99 g46_0 g46_1) else
  fX6_worst_L65 M (fun z0 z1 z2 z3 z4 => fX6_worst_L7 M fu z0 z1 z2 z3 z4) x1 x2 x3 r46 g46_0 g46_1
def fX6_worst (M : dk_O) : Option (Int32 × (Nat → Int32) × (Nat → Int32)) :=
  fX6_worst_L7 M 1000 (-9) (-1) 0 (M.2 26) (M.2 17)
def fX6_fewest_L11 (M : dk_O) (k2 : Int32 → (Nat → Int32) → (Nat → Int32) → Option (Int32 × (Nat → Int32) × (Nat → Int32))) : Nat → Int32 → Int32 → Int32 → (Nat → Int32) → (Nat → Int32) → Option (Int32 × (Nat → Int32) × (Nat → Int32))
  | 0, _, _, _, _, _ => none
  | fu+1, x1, x2, x3, M_26, M_17 =>
  if (M.1 4) ≤ x3 then (if x2 = 0 then (k2 (x1 + 1) M_26 M_17) else
    some (x1, M_26, M_17)) else
  if x3 = (M.1 5) then (fX6_fewest_L11 M k2 fu x1 x2 (x3 + 1) M_26 M_17) else
  (fX6_layFirst (M.1, dk_upA (dk_upA M.2 26 M_26) 17 M_17) M_17 x3 x1).bind fun g34_0 =>
  if x2 = 0 then (fX6_fewest_L11 M k2 fu x1 0 (x3 + 1) M_26 g34_0) else
  (fX6_runTrial (M.1, dk_upA (dk_upA M.2 26 M_26) 17 g34_0)).bind fun (r42, g42_0, g42_1) =>
  if r42 = (-9) then (fX6_fewest_L11 M k2 fu x1 0 (x3 + 1) g42_0 g42_1) else
  (fX6_living g42_1).bind fun r54 =>
  if r54 ≤ 0 then (fX6_fewest_L11 M k2 fu x1 0 (x3 + 1) g42_0 g42_1) else
  fX6_fewest_L11 M k2 fu x1 1 (x3 + 1) g42_0 g42_1
def fX6_fewest_L2 (M : dk_O) : Nat → Int32 → (Nat → Int32) → (Nat → Int32) → Option (Int32 × (Nat → Int32) × (Nat → Int32))
  | 0, _, _, _ => none
  | fu+1, x1, M_26, M_17 =>
  if 5 ≤ x1 then (some ((-9), M_26, M_17)) else
  fX6_fewest_L11 M (fun z0 z1 z2 => fX6_fewest_L2 M fu z0 z1 z2) 1000 x1 1 0 M_26 M_17
def fX6_fewest (M : dk_O) : Option (Int32 × (Nat → Int32) × (Nat → Int32)) :=
  fX6_fewest_L2 M 1000 1 (M.2 26) (M.2 17)
def fX6_ask (M : dk_O) (v1 : Int32) : Option (Int32 × (Nat → Int32) × (Nat → Int32) × (Nat → Int32)) :=
  if v1 = 0 then ((fX6_living (M.2 16)).bind fun r56 =>
    some (r56, upd M.1 0 0, M.2 26, M.2 17)) else
  if v1 = 1 then ((dk_rd (M.2 16) 21 2).bind fun d65 =>
    some (d65, upd M.1 0 0, M.2 26, M.2 17)) else
  if v1 = 2 then ((fX6_visited (upd M.1 0 0, M.2) (M.2 16)).bind fun r72 =>
    some (r72, upd M.1 0 0, M.2 26, M.2 17)) else
  if v1 = 3 then ((fX6_mayBe (upd M.1 0 0, M.2) (M.2 16)).bind fun r81 =>
    some (r81, upd M.1 0 0, M.2 26, M.2 17)) else
  if v1 = 4 then ((fX6_isKnown (upd M.1 0 0, M.2) (M.2 16)).bind fun r90 =>
    if r90 = 0 then (some (0, upd M.1 0 0, M.2 26, M.2 17)) else
    some (1, upd M.1 0 0, M.2 26, M.2 17)) else
  if v1 = 5 then ((fX6_worst (upd M.1 0 0, M.2)).bind fun (r103, g103_0, g103_1) =>
    some (r103, upd M.1 0 0, g103_0, g103_1)) else
  if v1 = 6 then ((fX6_fewest (upd M.1 0 0, M.2)).bind fun (r108, g108_0, g108_1) =>
    some (r108, upd M.1 0 0, g108_0, g108_1)) else
  if v1 = 7 then ((fX6_fated (upd M.1 0 0, M.2)).bind fun r113 =>
    some (r113, upd M.1 0 0, M.2 26, M.2 17)) else
  some ((-2), upd M.1 0 0, M.2 26, M.2 17)
def fX6_fate (M : dk_O) (v1 : Int32) (v2 : Int32) : Option (Int32 × (Nat → Int32) × (Nat → Int32) × (Nat → Int32)) :=
  (fX6_noPlace (upd M.1 0 0, M.2) v1).bind fun r7 =>
  if r7 = 0 then ((fX6_in v2.toInt64 0 2).bind fun r21 =>
    if r21 = 0 then (some ((-2), upd M.1 0 0, M.2 26, M.2 17)) else
    (fX6_isFree (upd M.1 0 0, M.2) (M.2 16) v1).bind fun r36 =>
    if r36 = 0 then (some ((-3), upd M.1 0 0, M.2 26, M.2 17)) else
    (fX6_lay (M.2 16) (M.2 17)).bind fun g53_0 =>
    (dk_wr g53_0 21 0 v1).bind fun f62 =>
    (fX6_runTrial (upd M.1 0 0, dk_upA M.2 17 f62)).bind fun (r64, g64_0, g64_1) =>
    if v2 = 0 then (some (r64, upd M.1 0 0, g64_0, g64_1)) else
    if v2 = 1 then ((dk_rd g64_1 21 2).bind fun d86 =>
      some (d86, upd M.1 0 0, g64_0, g64_1)) else
    (fX6_living g64_1).bind fun r94 =>
    some (r94, upd M.1 0 0, g64_0, g64_1)) else
  some ((-1), upd M.1 0 0, M.2 26, M.2 17)
def fX6_does (M : dk_O) (v1 : Int32) (v2 : Int32) (v3 : Int32) : Option (Int32 × (Nat → Int32) × (Nat → Int32)) :=
  (fX6_mayBe M (M.2 17)).bind fun r5 =>
  if v1 = 1 then ((fX6_canStep M (M.2 17) v2 v3).bind fun r59 =>
    if r59 = 0 then (some (0, M.2 26, M.2 17)) else
    (fX6_stepOn M (M.2 17) v2 v3).bind fun g74_0 =>
    some (1, M.2 26, g74_0)) else
  if v1 = 2 then (if v2 = 0 then (if v3 = 0 then ((fX6_living (M.2 17)).bind fun r91 =>
        if r91 = 0 then (some (0, M.2 26, M.2 17)) else
        (fX6_roundOn M (M.2 17)).bind fun (r104, g104_0, g104_1) =>
        some (1, g104_0, g104_1)) else
      some (0, M.2 26, M.2 17)) else
    some (0, M.2 26, M.2 17)) else
  if v1 = 3 then (if v2 = 0 then ((fX6_living (M.2 17)).bind fun r118 =>
      if r118 = v3 then (some (1, M.2 26, M.2 17)) else
      some (0, M.2 26, M.2 17)) else
    some (0, M.2 26, M.2 17)) else
  if v1 = 4 then (if v2 = 0 then ((fX6_has r5 v3).bind fun r138 =>
      if r138 = 0 then (some (0, M.2 26, M.2 17)) else
      some (1, M.2 26, M.2 17)) else
    some (0, M.2 26, M.2 17)) else
  if v1 = 5 then ((dk_rd (M.2 17) 21 1).bind fun d156 =>
    if d156 ≤ v2 then (some (0, M.2 26, M.2 17)) else
    (fX6_noPlace M v3).bind fun r162 =>
    if r162 = 0 then ((dk_rd (M.2 17) 21 (3 + v2)).bind fun d175 =>
      if d175 = v3 then (some (1, M.2 26, M.2 17)) else
      some (0, M.2 26, M.2 17)) else
    some (0, M.2 26, M.2 17)) else
  if v1 = 6 then ((fX6_noEdge M v2).bind fun r188 =>
    if r188 = 0 then ((dk_rd (M.2 17) 21 (11 + v2)).bind fun d202 =>
      if d202 = v3 then (some (1, M.2 26, M.2 17)) else
      some (0, M.2 26, M.2 17)) else
    some (0, M.2 26, M.2 17)) else
  if v1 = 7 then (if v2 = 0 then ((fX6_noPlace M v3).bind fun r219 =>
      if r219 = 0 then (if r5 = ((1 : Int32) <<< (v3 &&& 31)) then (some (1, M.2 26, M.2 17)) else
        some (0, M.2 26, M.2 17)) else
      some (0, M.2 26, M.2 17)) else
    some (0, M.2 26, M.2 17)) else
  some (0, M.2 26, M.2 17)
def fX6_longPower_L5  : Nat → Int64 → Int32 → Int64 → Int32 → Option (Int64)
  | 0, _, _, _, _ => none
  | fu+1, x0, x2, x3, x5 =>
  if x2 ≤ x5 then (some x3) else
  fX6_longPower_L5  fu x0 x2 (x3 * x0) (x5 + 1)
def fX6_longPower (v0 : Int64) (v2 : Int32) : Option (Int64) :=
  fX6_longPower_L5 1000 v0 v2 1 0
def fX6_judge_L51 (M : dk_O) : Nat → Int32 → Int64 → Int32 → (Nat → Int32) → (Nat → Int32) → (Nat → Int32) → Option (Int32 × (Nat → Int32) × (Nat → Int32) × (Nat → Int32))
  | 0, _, _, _, _, _, _ => none
  | fu+1, x1, x2, x4, M_I, M_26, M_17 =>
  if x1 ≤ x4 then (some ((-9), M_I, M_26, M_17)) else
  (fX6_longPower 1000 ((x1 - 1) - x4)).bind fun r67 =>
  if r67 = 0 then none else
  (fX6_does (M_I, dk_upA (dk_upA M.2 26 M_26) 17 M_17) ((((x2 / r67) - (x2 / r67) / 1000 * 1000).toInt32) / 100) (((((x2 / r67) - (x2 / r67) / 1000 * 1000).toInt32) / 10) - ((((x2 / r67) - (x2 / r67) / 1000 * 1000).toInt32) / 10) / 10 * 10) ((((x2 / r67) - (x2 / r67) / 1000 * 1000).toInt32) - (((x2 / r67) - (x2 / r67) / 1000 * 1000).toInt32) / 10 * 10)).bind fun (r97, g97_0, g97_1) =>
  if r97 = 0 then (some (x4, M_I, g97_0, g97_1)) else
  fX6_judge_L51 M fu x1 x2 (x4 + 1) M_I g97_0 g97_1
def fX6_judge (M : dk_O) (v1 : Int32) (v2 : Int64) : Option (Int32 × (Nat → Int32) × (Nat → Int32) × (Nat → Int32)) :=
  (fX6_in v1.toInt64 1 4).bind fun r11 =>
  if r11 = 0 then (some ((-2), upd M.1 0 0, M.2 26, M.2 17)) else
  (fX6_longPower 1000 v1).bind fun r23 =>
  (fX6_in v2 0 (r23 - 1)).bind fun r28 =>
  if r28 = 0 then (some ((-2), upd M.1 0 0, M.2 26, M.2 17)) else
  (fX6_lay (M.2 16) (M.2 17)).bind fun g45_0 =>
  fX6_judge_L51 M 1000 v1 v2 0 (upd M.1 0 0) (M.2 26) g45_0
def fX6_see (M : dk_O) (v1 : Int32) (v2 : Int32) : Option (Int32 × (Nat → Int32) × (Nat → Int32) × (Nat → Int32)) :=
  (fX6_in v1.toInt64 0 20).bind fun r11 =>
  if r11 = 0 then (some ((-2), upd M.1 0 0, M.2 23, M.2 24)) else
  (fX6_in v2.toInt64 0 4).bind fun r23 =>
  if r23 = 0 then (some ((-2), upd M.1 0 0, M.2 23, M.2 24)) else
  if (M.1 22) = 6 then (some ((-4), upd M.1 0 0, M.2 23, M.2 24)) else
  (dk_wr (M.2 23) 6 (M.1 22) v1).bind fun f53 =>
  (dk_wr (M.2 24) 6 (M.1 22) v2).bind fun f63 =>
  some ((M.1 22) + 1, upd (upd M.1 0 0) 22 ((M.1 22) + 1), f53, f63)
def fX6_unsee (M : dk_O) : Option (Int32 × (Nat → Int32)) :=
  some (M.1 22, upd (upd M.1 0 0) 22 0)
def fX6_livingBehind_L20 (M : dk_O) : Nat → Int32 → Int32 → (Nat → Int32) → (Nat → Int32) → Option (Int32 × (Nat → Int32) × (Nat → Int32))
  | 0, _, _, _, _ => none
  | fu+1, x2, x3, M_26, M_17 =>
  if x2 ≤ x3 then ((fX6_living M_17).bind fun r44 =>
    some (r44, M_26, M_17)) else
  (fX6_roundOn (M.1, dk_upA (dk_upA M.2 26 M_26) 17 M_17) M_17).bind fun (r30, g30_0, g30_1) =>
  fX6_livingBehind_L20 M fu x2 (x3 + 1) g30_0 g30_1
def fX6_livingBehind (M : dk_O) (v1 : Int32) (v2 : Int32) : Option (Int32 × (Nat → Int32) × (Nat → Int32)) :=
  (fX6_lay (M.2 16) (M.2 17)).bind fun g8_0 =>
  (dk_wr g8_0 21 0 v1).bind fun f17 =>
  fX6_livingBehind_L20 M 1000 v2 0 (M.2 26) f17
def fX6_which_L77 (M : dk_O) (k9 : Int32 → Int32 → (Nat → Int32) → (Nat → Int32) → (Nat → Int32) → Option (Int32 × (Nat → Int32) × (Nat → Int32) × (Nat → Int32))) (x1 : Int32) (x2 : Int32) (x3 : Int32) (M_I : (Nat → Int32)) (M_26 : (Nat → Int32)) (M_17 : (Nat → Int32)) : Option (Int32 × (Nat → Int32) × (Nat → Int32) × (Nat → Int32)) :=
  if x3 = 0 then (k9 (x1 ||| 0) (x2 + 1) M_I M_26 M_17) else
  k9 (x1 ||| ((1 : Int32) <<< (x2 &&& 31))) (x2 + 1) M_I M_26 M_17
def fX6_which_L30 (M : dk_O) (k9 : Int32 → Int32 → (Nat → Int32) → (Nat → Int32) → (Nat → Int32) → Option (Int32 × (Nat → Int32) × (Nat → Int32) × (Nat → Int32))) : Nat → Int32 → Int32 → Int32 → Int32 → (Nat → Int32) → (Nat → Int32) → (Nat → Int32) → Option (Int32 × (Nat → Int32) × (Nat → Int32) × (Nat → Int32))
  | 0, _, _, _, _, _, _, _ => none
  | fu+1, x1, x2, x3, x4, M_I, M_26, M_17 =>
  if (M_I 22) ≤ x4 then (fX6_which_L77 M k9 x1 x2 x3 M_I M_26 M_17) else
  if x3 = 0 then (fX6_which_L77 M k9 x1 x2 x3 M_I M_26 M_17) else
  (dk_rd (M.2 23) 6 x4).bind fun d51 =>
  (fX6_livingBehind (M_I, dk_upA (dk_upA M.2 26 M_26) 17 M_17) x2 d51).bind fun (r52, g52_0, g52_1) =>
  (dk_rd (M.2 24) 6 x4).bind fun d61 =>
  if r52 = d61 then (fX6_which_L30 M k9 fu x1 x2 1 (x4 + 1) M_I g52_0 g52_1) else
  fX6_which_L30 M k9 fu x1 x2 0 (x4 + 1) M_I g52_0 g52_1
def fX6_which_L9 (M : dk_O) : Nat → Int32 → Int32 → (Nat → Int32) → (Nat → Int32) → (Nat → Int32) → Option (Int32 × (Nat → Int32) × (Nat → Int32) × (Nat → Int32))
  | 0, _, _, _, _, _ => none
  | fu+1, x1, x2, M_I, M_26, M_17 =>
  if (M_I 4) ≤ x2 then (some (x1, M_I, M_26, M_17)) else
  (fX6_isFree (M_I, dk_upA (dk_upA M.2 26 M_26) 17 M_17) (M.2 16) x2).bind fun r23 =>
  fX6_which_L30 M (fun z0 z1 z2 z3 z4 => fX6_which_L9 M fu z0 z1 z2 z3 z4) 1000 x1 x2 r23 0 M_I M_26 M_17
def fX6_which (M : dk_O) : Option (Int32 × (Nat → Int32) × (Nat → Int32) × (Nat → Int32)) :=
  fX6_which_L9 M 1000 0 0 (upd M.1 0 0) (M.2 26) (M.2 17)
def fX6_divisor_L13  : Nat → Int32 → Int32 → Option (Int32)
  | 0, _, _ => none
  | fu+1, x2, x3 =>
  if x3 = 0 then (some x2) else
  if x3 = 0 then none else
  fX6_divisor_L13  fu x3 (x2 - x2 / x3 * x3)
def fX6_divisor (v0 : Int32) (v1 : Int32) : Option (Int32) :=
  if 0 ≤ v0 then (fX6_divisor_L13 1000 v0 v1) else
  fX6_divisor_L13 1000 (-v0) v1
def fX6_fraction (v0 : Int32) (v1 : Int32) (v2 : Int32) : Option (Int32) :=
  (fX6_divisor v0 v1).bind fun r2 =>
  if v2 = 0 then (if r2 = 0 then none else
    some (v1 / r2)) else
  if r2 = 0 then none else
  some (v0 / r2)
def fX6_factorial_L4  : Nat → Int32 → Int32 → Int32 → Option (Int32)
  | 0, _, _, _ => none
  | fu+1, x0, x1, x2 =>
  if x0 < x2 then (some x1) else
  fX6_factorial_L4  fu x0 (x1 * x2) (x2 + 1)
def fX6_factorial (v0 : Int32) : Option (Int32) :=
  fX6_factorial_L4 1000 v0 1 2
def fX6_visitedBy_L18 (M : dk_O) : Nat → Int32 → (Nat → Int32) → (Nat → Int32) → (Nat → Int32) → Option (Int32 × (Nat → Int32) × (Nat → Int32) × (Nat → Int32))
  | 0, _, _, _, _ => none
  | fu+1, x2, M_I, M_26, M_17 =>
  if 6 ≤ x2 then ((fX6_visited (upd M_I 27 15, dk_upA (dk_upA M.2 26 M_26) 17 M_17) M_17).bind fun r50 =>
    (fX6_ones r50).bind fun r53 =>
    some (r53, upd M_I 27 15, M_26, M_17)) else
  (fX6_roundOn (M_I, dk_upA (dk_upA M.2 26 M_26) 17 M_17) M_17).bind fun (r29, g29_0, g29_1) =>
  fX6_visitedBy_L18 M fu (x2 + 1) M_I g29_0 g29_1
def fX6_visitedBy (M : dk_O) (v1 : Int32) : Option (Int32 × (Nat → Int32) × (Nat → Int32) × (Nat → Int32)) :=
  (fX6_lay (M.2 16) (M.2 17)).bind fun g13_0 =>
  fX6_visitedBy_L18 M 1000 0 (upd M.1 27 v1) (M.2 26) g13_0
def fX6_share_L86 (M : dk_O) : Nat → Int32 → Int32 → Int32 → Int32 → Int32 → Int32 → (Nat → Int32) → (Nat → Int32) → (Nat → Int32) → Option (Int32 × (Nat → Int32) × (Nat → Int32) × (Nat → Int32))
  | 0, _, _, _, _, _, _, _, _, _ => none
  | fu+1, x1, x2, x3, x4, x5, x6, M_I, M_26, M_17 =>
  if 16 ≤ x6 then ((fX6_factorial x4).bind fun r167 =>
    (fX6_fraction x5 r167 x2).bind fun r171 =>
    some (r171, M_I, M_26, M_17)) else
  if (x6 &&& (x3 ^^^ (-1))) = 0 then ((fX6_has x6 x1).bind fun r105 =>
    if r105 = 0 then ((fX6_ones x6).bind fun r113 =>
      (fX6_factorial r113).bind fun r122 =>
      (fX6_factorial ((x4 - 1) - r113)).bind fun r132 =>
      (fX6_visitedBy (M_I, dk_upA (dk_upA M.2 26 M_26) 17 M_17) (x6 ||| ((1 : Int32) <<< (x1 &&& 31)))).bind fun (r143, i143_0, g143_1, g143_2) =>
      (fX6_visitedBy (i143_0, dk_upA (dk_upA M.2 26 g143_1) 17 g143_2) x6).bind fun (r149, i149_0, g149_1, g149_2) =>
      fX6_share_L86 M fu x1 x2 x3 x4 (x5 + ((r122 * r132) * (r143 - r149))) (x6 + 1) i149_0 g149_1 g149_2) else
    fX6_share_L86 M fu x1 x2 x3 x4 x5 (x6 + 1) M_I M_26 M_17) else
  fX6_share_L86 M fu x1 x2 x3 x4 x5 (x6 + 1) M_I M_26 M_17
def fX6_share_L34 (M : dk_O) : Nat → Int32 → Int32 → Int32 → Int32 → (Nat → Int32) → (Nat → Int32) → (Nat → Int32) → Option (Int32 × (Nat → Int32) × (Nat → Int32) × (Nat → Int32))
  | 0, _, _, _, _, _, _, _ => none
  | fu+1, x1, x2, x3, x4, M_I, M_26, M_17 =>
  (dk_rd (M.2 16) 21 1).bind fun d41 =>
  if d41 ≤ x4 then ((fX6_ones x3).bind fun r75 =>
    fX6_share_L86 M 1000 x1 x2 x3 r75 0 0 M_I M_26 M_17) else
  (fX6_lives (M.2 16) x4).bind fun r52 =>
  if r52 = 0 then (fX6_share_L34 M fu x1 x2 (x3 ||| 0) (x4 + 1) M_I M_26 M_17) else
  fX6_share_L34 M fu x1 x2 (x3 ||| ((1 : Int32) <<< (x4 &&& 31))) (x4 + 1) M_I M_26 M_17
def fX6_share (M : dk_O) (v1 : Int32) (v2 : Int32) : Option (Int32 × (Nat → Int32) × (Nat → Int32) × (Nat → Int32)) :=
  (fX6_noSearcher (upd M.1 0 0, M.2) v1).bind fun r7 =>
  if r7 = 0 then ((fX6_lives (M.2 16) v1).bind fun r20 =>
    if r20 = 0 then (some ((-3), upd M.1 0 0, M.2 26, M.2 17)) else
    fX6_share_L34 M 1000 v1 v2 0 0 (upd M.1 0 0) (M.2 26) (M.2 17)) else
  some ((-1), upd M.1 0 0, M.2 26, M.2 17)
def fX6_luck_L52 (M : dk_O) : Nat → Int32 → Int32 → Int32 → Int32 → Int32 → Int32 → (Nat → Int32) → (Nat → Int32) → (Nat → Int32) → Option (Int32 × (Nat → Int32) × (Nat → Int32) × (Nat → Int32))
  | 0, _, _, _, _, _, _, _, _, _ => none
  | fu+1, x1, x2, x3, x4, x5, x6, M_I, M_26, M_17 =>
  if (M_I 4) ≤ x6 then ((fX6_ones x4).bind fun r102 =>
    (fX6_fraction x5 r102 x3).bind fun r106 =>
    some (r106, M_I, M_26, M_17)) else
  (fX6_has x4 x6).bind fun r67 =>
  if r67 = 0 then (fX6_luck_L52 M fu x1 x2 x3 x4 (x5 + 0) (x6 + 1) M_I M_26 M_17) else
  (fX6_livingBehind (M_I, dk_upA (dk_upA M.2 26 M_26) 17 M_17) x6 x1).bind fun (r77, g77_0, g77_1) =>
  if r77 < x2 then (fX6_luck_L52 M fu x1 x2 x3 x4 (x5 + 0) (x6 + 1) M_I g77_0 g77_1) else
  fX6_luck_L52 M fu x1 x2 x3 x4 (x5 + 1) (x6 + 1) M_I g77_0 g77_1
def fX6_luck (M : dk_O) (v1 : Int32) (v2 : Int32) (v3 : Int32) : Option (Int32 × (Nat → Int32) × (Nat → Int32) × (Nat → Int32)) :=
  (fX6_in v1.toInt64 0 20).bind fun r11 =>
  if r11 = 0 then (some ((-2), upd M.1 0 0, M.2 26, M.2 17)) else
  (fX6_in v2.toInt64 0 4).bind fun r23 =>
  if r23 = 0 then (some ((-2), upd M.1 0 0, M.2 26, M.2 17)) else
  (fX6_fated (upd M.1 0 0, M.2)).bind fun r33 =>
  if r33 = 0 then (some ((-3), upd M.1 0 0, M.2 26, M.2 17)) else
  fX6_luck_L52 M 1000 v1 v2 v3 r33 0 0 (upd M.1 0 0) (M.2 26) (M.2 17)
def fX6_seed (sdM : Int64) (M : dk_O) (v1 : Int64) : Option (Int64 × (Nat → Int32) × Int64) :=
  some (sdM, upd M.1 0 0, v1)
def fX6_drawn_L107 (sdM : Int64) (M : dk_O) (k35 : Int32 → Int32 → Int32 → (Nat → Int32) → (Nat → Int32) → Int64 → Option (Int32 × (Nat → Int32) × (Nat → Int32) × Int64)) (x1 : Int32) (x2 : Int32) (x3 : Int32) (M_I : (Nat → Int32)) (M_17 : (Nat → Int32)) (M_sd : Int64) : Option (Int32 × (Nat → Int32) × (Nat → Int32) × Int64) :=
  (fX6_living M_17).bind fun r112 =>
  k35 x1 (x2 + r112) (x3 + 1) M_I M_17 M_sd
def fX6_drawn_L35 (sdM : Int64) (M : dk_O) : Nat → Int32 → Int32 → Int32 → (Nat → Int32) → (Nat → Int32) → Int64 → Option (Int32 × (Nat → Int32) × (Nat → Int32) × Int64)
  | 0, _, _, _, _, _, _ => none
  | fu+1, x1, x2, x3, M_I, M_17, M_sd =>
  if x1 ≤ x3 then (some (x2, M_I, M_17, M_sd)) else
  (fX6_canStep (M_I, dk_upA M.2 17 M_17) M_17 ((((((M_sd * 6364136223846793005) + 1442695040888963407).toUInt64 >>> ((33 : Int32).toInt64.toUInt64 &&& Int64.toUInt64 63)).toInt64).toInt32) - (((((M_sd * 6364136223846793005) + 1442695040888963407).toUInt64 >>> ((33 : Int32).toInt64.toUInt64 &&& Int64.toUInt64 63)).toInt64).toInt32) / 4 * 4) (((((((M_sd * 6364136223846793005) + 1442695040888963407).toUInt64 >>> ((33 : Int32).toInt64.toUInt64 &&& Int64.toUInt64 63)).toInt64).toInt32) / 4) - ((((((M_sd * 6364136223846793005) + 1442695040888963407).toUInt64 >>> ((33 : Int32).toInt64.toUInt64 &&& Int64.toUInt64 63)).toInt64).toInt32) / 4) / 10 * 10)).bind fun r82 =>
  if r82 = 0 then (fX6_drawn_L107 sdM M (fun z0 z1 z2 z3 z4 z5 => fX6_drawn_L35 sdM M fu z0 z1 z2 z3 z4 z5) x1 x2 x3 M_I M_17 ((M_sd * 6364136223846793005) + 1442695040888963407)) else
  (fX6_stepOn (M_I, dk_upA M.2 17 M_17) M_17 ((((((M_sd * 6364136223846793005) + 1442695040888963407).toUInt64 >>> ((33 : Int32).toInt64.toUInt64 &&& Int64.toUInt64 63)).toInt64).toInt32) - (((((M_sd * 6364136223846793005) + 1442695040888963407).toUInt64 >>> ((33 : Int32).toInt64.toUInt64 &&& Int64.toUInt64 63)).toInt64).toInt32) / 4 * 4) (((((((M_sd * 6364136223846793005) + 1442695040888963407).toUInt64 >>> ((33 : Int32).toInt64.toUInt64 &&& Int64.toUInt64 63)).toInt64).toInt32) / 4) - ((((((M_sd * 6364136223846793005) + 1442695040888963407).toUInt64 >>> ((33 : Int32).toInt64.toUInt64 &&& Int64.toUInt64 63)).toInt64).toInt32) / 4) / 10 * 10)).bind fun g104_0 =>
  fX6_drawn_L107 sdM M (fun z0 z1 z2 z3 z4 z5 => fX6_drawn_L35 sdM M fu z0 z1 z2 z3 z4 z5) x1 x2 x3 M_I g104_0 ((M_sd * 6364136223846793005) + 1442695040888963407)
def fX6_drawn (sdM : Int64) (M : dk_O) (v1 : Int32) : Option (Int32 × (Nat → Int32) × (Nat → Int32) × Int64) :=
  (fX6_in v1.toInt64 1 60).bind fun r11 =>
  if r11 = 0 then (some ((-2), upd M.1 0 0, M.2 17, sdM)) else
  (fX6_lay (M.2 16) (M.2 17)).bind fun g28_0 =>
  fX6_drawn_L35 sdM M 1000 v1 0 0 (upd M.1 0 0) g28_0 sdM
def fX6_keep_L26 (M : dk_O) : Nat → Int32 → Int32 → (Nat → Int32) → (Nat → Int32) → (Nat → Int32) → Option (Int32 × (Nat → Int32) × (Nat → Int32) × (Nat → Int32))
  | 0, _, _, _, _, _ => none
  | fu+1, x1, x2, M_I, M_20, M_21 =>
  if 21 ≤ x2 then ((dk_rd (M.2 16) 21 2).bind fun d60 =>
    some (d60, M_I, M_20, M_21)) else
  (dk_rd (M.2 16) 21 x2).bind fun d47 =>
  (dk_wr M_20 42 ((21 * x1) + x2) d47).bind fun f48 =>
  fX6_keep_L26 M fu x1 (x2 + 1) M_I f48 M_21
def fX6_keep (M : dk_O) (v1 : Int32) : Option (Int32 × (Nat → Int32) × (Nat → Int32) × (Nat → Int32)) :=
  (fX6_in v1.toInt64 0 1).bind fun r9 =>
  if r9 = 0 then (some ((-1), upd M.1 0 0, M.2 20, M.2 21)) else
  (dk_wr (M.2 21) 2 v1 1).bind fun f23 =>
  fX6_keep_L26 M 1000 v1 0 (upd M.1 0 0) (M.2 20) f23
def fX6_again_L31 (M : dk_O) : Nat → Int32 → Int32 → (Nat → Int32) → (Nat → Int32) → Option (Int32 × (Nat → Int32) × (Nat → Int32))
  | 0, _, _, _, _ => none
  | fu+1, x1, x2, M_I, M_16 =>
  if 21 ≤ x2 then ((dk_rd M_16 21 2).bind fun d70 =>
    some (d70, upd M_I 19 0, M_16)) else
  (dk_rd (M.2 20) 42 ((21 * x1) + x2)).bind fun d52 =>
  (dk_wr M_16 21 x2 d52).bind fun f53 =>
  fX6_again_L31 M fu x1 (x2 + 1) M_I f53
def fX6_again (M : dk_O) (v1 : Int32) : Option (Int32 × (Nat → Int32) × (Nat → Int32)) :=
  (fX6_in v1.toInt64 0 1).bind fun r9 =>
  if r9 = 0 then (some ((-1), upd M.1 0 0, M.2 16)) else
  (dk_rd (M.2 21) 2 v1).bind fun d22 =>
  if d22 = 0 then (some ((-3), upd M.1 0 0, M.2 16)) else
  fX6_again_L31 M 1000 v1 0 (upd M.1 0 0) (M.2 16)
def fX6_count (M : dk_O) (v1 : Int32) : Option (Int32 × (Nat → Int32)) :=
  if v1 = 0 then (some (M.1 2, upd M.1 0 0)) else
  if v1 = 1 then (some (M.1 4, upd M.1 0 0)) else
  if v1 = 2 then (some (M.1 6, upd M.1 0 0)) else
  if v1 = 3 then ((dk_rd (M.2 16) 21 1).bind fun d72 =>
    some (d72, upd M.1 0 0)) else
  if v1 = 4 then (some (M.1 5, upd M.1 0 0)) else
  if v1 = 5 then ((dk_rd (M.2 16) 21 0).bind fun d84 =>
    some (d84, upd M.1 0 0)) else
  if v1 = 6 then (some (M.1 19, upd M.1 0 0)) else
  if v1 = 7 then (some (M.1 22, upd M.1 0 0)) else
  some ((-2), upd M.1 0 0)
