-- the two static tables; printed by wip/gen/stat.py (functions and walks of judge, share, gainInAllOrders)
def tb_F (k : Nat) : Int32 := if k = 2 then 2 else if k = 3 then 6 else if k = 4 then 24 else 1
def tb_T (k : Nat) : Int64 := if k = 1 then 1000 else if k = 2 then 1000000 else if k = 3 then 1000000000 else if k = 4 then 1000000000000 else 1
def dk_rdL (f : Nat → Int64) (n : Nat) (i : Int32) : Option Int64 := if 0 ≤ i.toInt ∧ i.toInt < n then some (f i.toNatClampNeg) else none
theorem dk_rdL_in {f : Nat → Int64} {n : Nat} {i : Int32} {v : Int64} (h : dk_rdL f n i = some v) : vp_in i n ∧ f i.toNatClampNeg = v := by
  unfold dk_rdL at h
  by_cases q : 0 ≤ i.toInt ∧ i.toInt < n
  · rw [if_pos q] at h
    exact ⟨vp_in_iff.mpr q, Option.some.inj h⟩
  · rw [if_neg q] at h
    cases h
def dk_Tb (tF tT : Nat) (A : Nat → Prop) (U : State) (H : Heap) : Prop := va_Z "DarkPlace" "FACTORIALS" "[I" (.ref tF) A U H ∧ va_T .int tF 5 (fun k => .int (tb_F k)) A U H ∧ va_Z "DarkPlace" "THOUSANDS" "[J" (.ref tT) A U H ∧ va_T .long tT 5 (fun k => .long (tb_T k)) A U H
theorem dk_Tb.moved {tF tT : Nat} {A : Nat → Prop} {u U : State} {H : Heap} (hvm : u.vm.Alike U.vm) (h : dk_Tb tF tT A u H) : dk_Tb tF tT A U H := ⟨h.1.moved hvm, h.2.1.moved hvm, h.2.2.1.moved hvm, h.2.2.2.moved hvm⟩
theorem dk_Tb.kept {tF tT : Nat} {A : Nat → Prop} {U : State} {H H1 : Heap} (h : dk_Tb tF tT A U H) (hq : ∀ a : Nat, a < H.size → ¬ A a → H1[a]? = H[a]?) : dk_Tb tF tT A U H1 := ⟨h.1.kept hq, h.2.1.kept hq, h.2.2.1.kept hq, h.2.2.2.kept hq⟩
theorem dk_Tb.narrow {tF tT : Nat} {A B : Nat → Prop} {U : State} {H : Heap} (h : dk_Tb tF tT A U H) (hq : ∀ q, B q → A q) : dk_Tb tF tT B U H := ⟨h.1.narrow hq, h.2.1.narrow hq, h.2.2.1.narrow hq, h.2.2.2.narrow hq⟩
def dk_MS (D : va_G) (cy : Nat → ClassId) (w : va_W) (sz tF tT : Nat) : State → Prop := fun U => dk_M D cy w sz U ∧ dk_Tb tF tT (va_A w sz) U U.heap
theorem dk_MS.blind {D : va_G} {cy : Nat → ClassId} {w : va_W} {sz tF tT : Nat} {As : List Value} : FrameBlind (va_Pc As (dk_MS D cy w sz tF tT)) := fun a U g mk q => ⟨q.1, ⟨q.2.1.1, q.2.1.2.1, dk_K.same (u := U) (U := U.calling g mk a) rfl q.2.1.2.2.1, q.2.1.2.2.2⟩, dk_Tb.moved (u := U) (U := U.calling g mk a) (Vm.Alike.refl U.vm) q.2.2⟩
theorem dk_premVS {D : va_G} {cy : Nat → ClassId} {w : va_W} {s : State} {H : Heap} {b q0 ci N tF tT : Nat} {C : String} {T : u_T} {fs As : List Value} {A : Nat → Prop} {locs : List Loc} (hK : dk_K D cy s) (hP : va_P D vwCl w H) (hD : va_D A w) (hTb : dk_Tb tF tT A s s.heap) (hS : va_S A s.heap H locs) (hF : ∀ q, va_A w H.size q → A q) (hc : vwCl[ci]? = some (C, T, N)) (he : w[q0]? = some (b, .inr (ci, fs))) : PreV s H C b (va_Pc (.ref b :: As) (dk_MS D cy w H.size tF tT)) As :=
  ⟨dk_MS.blind, va_recv hK.1 hP hc he, fun U hU hW => ⟨rfl, ⟨by rw [hU], by rw [hU]; exact hP, hK.warm hW, hD.weaken (fun _ _ _ _ => trivial)⟩, by rw [hU]; exact ((hTb.kept hS.2.1).narrow hF).moved hW.alike⟩⟩
abbrev dk_MuIS (l : Launch) (y : MethodName) (ws : List Cond) (rm : Room) (D : va_G) (cy : Nat → ClassId) (As : List Value) (w w' : va_W) (sz tF tT : Nat) (r : Int32) : Prop := Met l y ws rm (va_Pc As (dk_MS D cy w sz tF tT)) (va_Qi (fun (x : Int32) (_ : Unit) => x = r) (dk_B D w' (va_A w sz)) (va_A w sz)) 0 0 (va_A w sz)
section DKS
variable {p : Program} {l : Launch} {e : Env} {R : Room} {s : State} {m : MethodId} {args : Array Value} {below : List Frame} {meth : Method} {c : Code} {H : Heap} {locs : List Loc} {cells slots : Nat} {Q : State → Prop} {cc : ByteArray} {pc : Nat} {ls : Array Slot} {rest : List Value} {α : Type} {r : α} {A : Nat → Prop}
theorem dk_tfi (hexec : p.tables.exec = Jvm.exec) (hb : c.code = cc) {t : Nat} (hT : va_T .int t 5 (fun k => .int (tb_F k)) A s s.heap) (hS : va_S A s.heap H locs) {i : Int32} {k : Int32 → Option α} (hf : (dk_rd tb_F 5 i).bind k = some r) (hdg : decode cc pc = .ok (.iaload, 1)) (kk : ∀ v : Int32, k v = some r → W p l e R s m args below meth c H locs cells slots Q (F0 m (pc + 1) ls (.int v :: rest))) : W p l e R s m args below meth c H locs cells slots Q (F0 m pc ls (.int i :: .ref t :: rest)) := by
  obtain ⟨v, h1, h2⟩ := dk_bind hf
  obtain ⟨h3, rfl⟩ := dk_rd_in h1
  exact va_ti hexec hb hT hS h3 rfl hdg (kk _ h2)
theorem dk_tfl (hexec : p.tables.exec = Jvm.exec) (hb : c.code = cc) {t : Nat} (hT : va_T .long t 5 (fun k => .long (tb_T k)) A s s.heap) (hS : va_S A s.heap H locs) {i : Int32} {k : Int64 → Option α} (hf : (dk_rdL tb_T 5 i).bind k = some r) (hdg : decode cc pc = .ok (.laload, 1)) (kk : ∀ v : Int64, k v = some r → W p l e R s m args below meth c H locs cells slots Q (F0 m (pc + 1) ls (.long v :: rest))) : W p l e R s m args below meth c H locs cells slots Q (F0 m pc ls (.int i :: .ref t :: rest)) := by
  obtain ⟨v, h1, h2⟩ := dk_bind hf
  obtain ⟨h3, rfl⟩ := dk_rdL_in h1
  exact va_tl hexec hb hT hS h3 rfl hdg (kk _ h2)
end DKS
def fX5_judge_L43 (Q : dk_O) (T : dk_O) (G : dk_O) (U : dk_O) : Nat → Int32 → Int64 → Int32 → (Nat → Int32) → (Nat → Int32) → (Nat → Int32) → Option (Int32 × (Nat → Int32) × (Nat → Int32) × (Nat → Int32))
  | 0, _, _, _, _, _, _ => none
  | fu+1, x1, x2, x4, U_I, U_1, U_2 =>
  if x1 ≤ x4 then (some ((-9), U_I, U_1, U_2)) else
  (dk_rdL tb_T  5 ((x1 - 1) - x4)).bind fun d59 =>
  if d59 = 0 then none else
  (fX3_allows (U_I, dk_upA (dk_upA U.2 1 U_1) 2 U_2) G ((((x2 / d59) - (x2 / d59) / 1000 * 1000).toInt32) / 100) (((((x2 / d59) - (x2 / d59) / 1000 * 1000).toInt32) / 10) - ((((x2 / d59) - (x2 / d59) / 1000 * 1000).toInt32) / 10) / 10 * 10) ((((x2 / d59) - (x2 / d59) / 1000 * 1000).toInt32) - (((x2 / d59) - (x2 / d59) / 1000 * 1000).toInt32) / 10 * 10)).bind fun (r90, i90_0, g90_1, g90_2) =>
  if r90 = 0 then (some (x4, i90_0, g90_1, g90_2)) else
  fX5_judge_L43 Q T G U fu x1 x2 (x4 + 1) i90_0 g90_1 g90_2
def fX5_judge (Q : dk_O) (T : dk_O) (G : dk_O) (U : dk_O) (v1 : Int32) (v2 : Int64) : Option (Int32 × (Nat → Int32) × (Nat → Int32) × (Nat → Int32)) :=
  if v1 < 1 then (some ((-2), U.1, U.2 1, U.2 2)) else
  if 4 < v1 then (some ((-2), U.1, U.2 1, U.2 2)) else
  if (lg_cmp v2 0) < 0 then (some ((-2), U.1, U.2 1, U.2 2)) else
  (dk_rdL tb_T  5 v1).bind fun d21 =>
  if (lg_cmp v2 d21) < 0 then ((fX3_become U T).bind fun (i37_0, g37_1, g37_2) =>
    fX5_judge_L43 Q T G U 1000 v1 v2 0 i37_0 g37_1 g37_2) else
  some ((-2), U.1, U.2 1, U.2 2)
def fX5_gainInAllOrders_L25 (Q : dk_O) (T : dk_O) (G : dk_O) (U : dk_O) : Nat → Int32 → Int32 → Int32 → Int32 → Int32 → (Nat → Int32) → (Nat → Int32) → (Nat → Int32) → Option (Int32 × (Nat → Int32) × (Nat → Int32) × (Nat → Int32))
  | 0, _, _, _, _, _, _, _, _ => none
  | fu+1, x1, x2, x3, x4, x5, U_I, U_1, U_2 =>
  if 15 < x5 then (some (x4, U_I, U_1, U_2)) else
  if (x5 &&& (x2 ^^^ (-1))) = 0 then ((fJ6_bitCount_0f7a4 x5).bind fun r43 =>
    (dk_rd tb_F  5 r43).bind fun d53 =>
    (dk_rd tb_F  5 (x3 - r43)).bind fun d61 =>
    (fX5_visitedBy Q T G (U_I, dk_upA (dk_upA U.2 1 U_1) 2 U_2) (x5 ||| ((1 : Int32) <<< (x1 &&& 31)))).bind fun (r76, i76_0, g76_1, g76_2) =>
    (fX5_visitedBy Q T G (i76_0, dk_upA (dk_upA U.2 1 g76_1) 2 g76_2) x5).bind fun (r82, i82_0, g82_1, g82_2) =>
    fX5_gainInAllOrders_L25 Q T G U fu x1 x2 x3 (x4 + ((d53 * d61) * (r76 - r82))) (x5 + 1) i82_0 g82_1 g82_2) else
  fX5_gainInAllOrders_L25 Q T G U fu x1 x2 x3 x4 (x5 + 1) U_I U_1 U_2
def fX5_gainInAllOrders (Q : dk_O) (T : dk_O) (G : dk_O) (U : dk_O) (v1 : Int32) : Option (Int32 × (Nat → Int32) × (Nat → Int32) × (Nat → Int32)) :=
  (fX3_livingOnes T G).bind fun r4 =>
  (fJ6_bitCount_0f7a4 (r4 &&& (((1 : Int32) <<< (v1 &&& 31)) ^^^ (-1)))).bind fun r15 =>
  fX5_gainInAllOrders_L25 Q T G U 1000 v1 (r4 &&& (((1 : Int32) <<< (v1 &&& 31)) ^^^ (-1))) r15 0 0 U.1 (U.2 1) (U.2 2)
def fX5_share (Q : dk_O) (T : dk_O) (G : dk_O) (U : dk_O) (v1 : Int32) (v2 : Int32) : Option (Int32 × (Nat → Int32) × (Nat → Int32) × (Nat → Int32)) :=
  (fX3_isSearcher T G v1).bind fun r5 =>
  if r5 = 0 then (some ((-1), U.1, U.2 1, U.2 2)) else
  (fX3_lives T G v1).bind fun r18 =>
  if r18 = 0 then (some ((-3), U.1, U.2 1, U.2 2)) else
  (fX3_living T G).bind fun r34 =>
  (dk_rd tb_F  5 r34).bind fun d37 =>
  (fX5_gainInAllOrders Q T G U v1).bind fun (r41, i41_0, g41_1, g41_2) =>
  (fX5_fraction r41 d37 v2).bind fun r46 =>
  some (r46, i41_0, g41_1, g41_2)
theorem iX5_judge_X5 : ∀ w ∈ wsX50, w ∈ wsX5_judge := fun _ h => List.mem_cons_of_mem _ (List.mem_append_left _ (List.mem_append_left _ (List.mem_append_right _ h)))
set_option maxHeartbeats 4000000 in
set_option maxRecDepth 100000 in
theorem kX5_judge (l : Launch) (D : va_G) (cy : Nat → ClassId) (hQ : Nat) (aQ : Nat → Nat) (sdQ : Int64) (aT : Nat → Nat) (aG : Nat → Nat) (aU : Nat → Nat) (sz tF tT : Nat) (Q : dk_O) (T : dk_O) (G : dk_O) (U : dk_O) (v1 : Int32) (v2 : Int64) (r : Int32) (oU_I : (Nat → Int32)) (oU_1 : (Nat → Int32)) (oU_2 : (Nat → Int32)) (hf : fX5_judge Q T G U v1 v2 = some (r, oU_I, oU_1, oU_2)) : dk_MuIS l yX5_judge wsX5_judge ({ frames := 6, cells := 0, slots := 0, locals := 139 }) D cy [.ref hQ, .int v1, .long v2] (wDp cy hQ aQ sdQ Q ++ wSt cy (aQ 3) aT (aQ 1) T ++ wNt cy (aQ 1) aG G ++ wSt cy (aQ 4) aU (aQ 1) U) (wDp cy hQ aQ sdQ Q ++ wSt cy (aQ 3) aT (aQ 1) T ++ wNt cy (aQ 1) aG G ++ wSt cy (aQ 4) aU (aQ 1) (oU_I, dk_upA (dk_upA U.2 1 oU_1) 2 oU_2)) sz tF tT r := by
  refine Met.ofW (cc := cX5_judge) (maxL := 6) (ret := (some .int)) (by decide) rfl ?_
  intro p e s m args below meth c s₁ B hml hv
  obtain ⟨rfl, ⟨hsz, hP, hK, hD0⟩, hTb⟩ := hv
  have hx := B.exec
  have hb := B.bytes
  have hr := B.returns
  have hts := atoms_spec (ws := wsX5_judge) B.pre
  have hown : s.vm.findClass RX5 = some m.cls := findClass_of_methodNamed B.named
  have hlocks := B.notSynchronized
  subst hsz
  have hD := hD0.self (sz := s.heap.size)
  generalize hAe : va_A (wDp cy hQ aQ sdQ Q ++ wSt cy (aQ 3) aT (aQ 1) T ++ wNt cy (aQ 1) aG G ++ wSt cy (aQ 4) aU (aQ 1) U) s.heap.size = A at hD hTb ⊢
  have hA : ∀ q : Nat, s.heap.size ≤ q → A q := fun q h => by rw [← hAe]; exact Or.inr h
  have hS : va_S A s.heap s.heap [] := va_S.rf
  have hl := lv_entry ([.ref hQ, .int v1, .long v2]) (n := 6) (Nat.le_of_ble_eq_true rfl)
  rw [lg_entry_eq]
  generalize (lg_sl ([.ref hQ, .int v1, .long v2]) ++ List.replicate (6 - (lg_sl ([.ref hQ, .int v1, .long v2])).length) Slot.unset).toArray = ls at hl ⊢
  have hl : lv_has ls 6 [(0, .ref hQ), (1, .int v1), (2, .long v2)] := hl
  have L43 : ∀ (fu43 : Nat) (x1 : Int32) (x2 : Int64) (x4 : Int32) (U_I : (Nat → Int32)) (U_1 : (Nat → Int32)) (U_2 : (Nat → Int32)) (H : Heap) (locs : List Loc) (ls : Array Slot), va_P D vwCl (wDp cy hQ aQ sdQ Q ++ wSt cy (aQ 3) aT (aQ 1) T ++ wNt cy (aQ 1) aG G ++ wSt cy (aQ 4) aU (aQ 1) (U_I, dk_upA (dk_upA U.2 1 U_1) 2 U_2)) H → va_D A (wDp cy hQ aQ sdQ Q ++ wSt cy (aQ 3) aT (aQ 1) T ++ wNt cy (aQ 1) aG G ++ wSt cy (aQ 4) aU (aQ 1) (U_I, dk_upA (dk_upA U.2 1 U_1) 2 U_2)) → va_S A s.heap H locs → lv_has ls 6 [(0, .ref hQ), (1, .int x1), (2, .long x2), (4, .int x4)] → fX5_judge_L43 Q T G U fu43 x1 x2 x4 U_I U_1 U_2 = some (r, oU_I, oU_1, oU_2) → W p l e (headSpec wsX5_judge ({ frames := 6, cells := 0, slots := 0, locals := 139 })).room s m ([.ref hQ, .int v1, .long v2]).toArray below meth c H locs 0 0 (MQ below (va_Qi (fun (x : Int32) (_ : Unit) => x = r) (dk_B D (wDp cy hQ aQ sdQ Q ++ wSt cy (aQ 3) aT (aQ 1) T ++ wNt cy (aQ 1) aG G ++ wSt cy (aQ 4) aU (aQ 1) (oU_I, dk_upA (dk_upA U.2 1 oU_1) 2 oU_2)) A) A) ([.ref hQ, .int v1, .long v2]).toArray s 0 0 A) (F0 m 43 ls []) := by
    intro fu43
    induction fu43 with
    | zero =>
      intro x1 x2 x4 U_I U_1 U_2 H locs ls hP hD hS hl hf
      rw [fX5_judge_L43] at hf
      cases hf
    | succ fu43 ih43 =>
      intro x1 x2 x4 U_I U_1 U_2 H locs ls hP hD hS hl hf
      rw [fX5_judge_L43] at hf
      refine lv_iload hx hb dX5_judge_43 (lv_at hl 3 rfl) ?_
      refine lv_iload_n hx hb dX5_judge_45 rfl (lv_at hl 1 rfl) ?_
      refine dk_cge (tgt := 105) hx hb dX5_judge_46 (by decide) hf (fun hf => ?_) (fun hf => ?_)
      · refine lv_bipush (v := (-9)) hx hb dX5_judge_105 (by decide) ?_
        have e := Option.some.inj hf
        simp only [Prod.mk.injEq] at e
        obtain ⟨e0, e1, e2, e3⟩ := e
        subst e1
        subst e2
        subst e3
        exact W.iret (v := (-9)) hx hb hr (fun t ht hW => ⟨⟨(-9), (), rfl, e0, by rw [ht]; exact hP, hD⟩, hS.F ht⟩) hS.2.2 dX5_judge_107
      · refine lv_lload_n hx hb dX5_judge_49 rfl (lv_at hl 2 rfl) ?_
        refine va_gets hx hb hTb.2.2.1 hS hown (hts (.fieldLink RX5 193 "DarkPlace" "THOUSANDS" "[J") (List.mem_of_getElem? (i := 1) rfl)) (fun _ h9 => h9) dX5_judge_50 ?_
        refine lv_iload_n hx hb dX5_judge_53 rfl (lv_at hl 1 rfl) ?_
        refine lv_iconst (v := 1) hx hb dX5_judge_54 (by decide) ?_
        refine lv_isub hx hb dX5_judge_55 ?_
        refine lv_iload hx hb dX5_judge_56 (lv_at hl 3 rfl) ?_
        refine lv_isub hx hb dX5_judge_58 ?_
        refine dk_tfl hx hb hTb.2.2.2 hS hf dX5_judge_59 (fun d59 hf => ?_)
        obtain ⟨q60, hf⟩ := dk_guard hf
        refine lv_ldiv hx hb dX5_judge_60 q60 ?_
        refine lv_ldc2 hx hb hown (hts (.constantLong RX5 199 (1000)) (List.mem_of_getElem? (i := 4) rfl)) dX5_judge_61 ?_
        refine lv_lrem hx hb dX5_judge_64 (by decide) ?_
        refine lv_l2i hx hb dX5_judge_65 rfl ?_
        refine lv_istore (lv' := [(5, .int (((x2 / d59) - (x2 / d59) / 1000 * 1000).toInt32)), (0, .ref hQ), (1, .int x1), (2, .long x2), (4, .int x4)]) hx hb dX5_judge_66 hl (by decide) rfl (fun ls hl => ?_)
        refine lv_aload_n hx hb dX5_judge_68 rfl (lv_at hl 1 rfl) ?_
        refine va_get (D := D) (ci := 5) (v := .ref (aQ 4)) (C := RX5) (T := TX5) (N := 10) hx hb hts iX5_judge_X5 hown hK.1 hP 0 rfl rfl 4 (by decide) (hts (.fieldLink RX5 35 "DarkPlace" "trial" "LDarkPlace$Stand;") (List.mem_of_getElem? (i := 2) rfl)) (fun _ h9 => h9) rfl dX5_judge_69 ?_
        refine lv_iload hx hb dX5_judge_72 (lv_at hl 0 rfl) ?_
        refine lv_bipush (v := 100) hx hb dX5_judge_74 (by decide) ?_
        refine lv_idiv hx hb dX5_judge_76 (by decide) ?_
        refine lv_iload hx hb dX5_judge_77 (lv_at hl 0 rfl) ?_
        refine lv_bipush (v := 10) hx hb dX5_judge_79 (by decide) ?_
        refine lv_idiv hx hb dX5_judge_81 (by decide) ?_
        refine lv_bipush (v := 10) hx hb dX5_judge_82 (by decide) ?_
        refine lv_irem hx hb dX5_judge_84 (by decide) ?_
        refine lv_iload hx hb dX5_judge_85 (lv_at hl 0 rfl) ?_
        refine lv_bipush (v := 10) hx hb dX5_judge_87 (by decide) ?_
        refine lv_irem hx hb dX5_judge_89 (by decide) ?_
        obtain ⟨⟨r90, i90_0, g90_1, g90_2⟩, k90, hf⟩ := dk_bind hf
        dsimp only at hf
        have hPc := hP.sub (ws' := wSt cy (aQ 4) aU (aQ 1) (U_I, dk_upA (dk_upA U.2 1 U_1) 2 U_2) ++ wNt cy (aQ 1) aG G) [9, 10, 11, 5, 6, 7, 8] rfl
        have hDc := hD.sub (ws' := wSt cy (aQ 4) aU (aQ 1) (U_I, dk_upA (dk_upA U.2 1 U_1) 2 U_2) ++ wNt cy (aQ 1) aG G) [9, 10, 11, 5, 6, 7, 8] (by decide) rfl
        have hFc := va_free (wc := wSt cy (aQ 4) aU (aQ 1) (U_I, dk_upA (dk_upA U.2 1 U_1) 2 U_2) ++ wNt cy (aQ 1) aG G) hD hS hA [9, 10, 11, 5, 6, 7, 8] rfl
        refine va_calli (va_runV (As := [.int ((((x2 / d59) - (x2 / d59) / 1000 * 1000).toInt32) / 100), .int (((((x2 / d59) - (x2 / d59) / 1000 * 1000).toInt32) / 10) - ((((x2 / d59) - (x2 / d59) / 1000 * 1000).toInt32) / 10) / 10 * 10), .int ((((x2 / d59) - (x2 / d59) / 1000 * 1000).toInt32) - (((x2 / d59) - (x2 / d59) / 1000 * 1000).toInt32) / 10 * 10)]) (rest := []) ⟨hx, hb, hml, hown, hts⟩ (kX3_allows l D cy (aQ 4) aU (aQ 1) aG H.size (U_I, dk_upA (dk_upA U.2 1 U_1) 2 U_2) G ((((x2 / d59) - (x2 / d59) / 1000 * 1000).toInt32) / 100) (((((x2 / d59) - (x2 / d59) / 1000 * 1000).toInt32) / 10) - ((((x2 / d59) - (x2 / d59) / 1000 * 1000).toInt32) / 10) / 10 * 10) ((((x2 / d59) - (x2 / d59) / 1000 * 1000).toInt32) - (((x2 / d59) - (x2 / d59) / 1000 * 1000).toInt32) / 10 * 10) r90 i90_0 g90_1 g90_2 k90) (cwV 3 hts gX5_judge_X3_allows rfl rfl rfl (by decide +kernel) ⟨Nat.le_of_ble_eq_true rfl, Nat.le_of_ble_eq_true rfl⟩) (dk_premV hK hPc hDc (ci := 3) (q0 := 0) rfl rfl) rfl rfl hl.1 rfl (lv_room (Nat.le_of_ble_eq_true rfl)) dX5_judge_90 ⟨Nat.zero_le _, Nat.zero_le _⟩) hS (fun q _ h => hFc q h) hFc (fun xr90 u t H1 locs ht hvm hw hB hz1 hk1 hS => ?_)
        obtain ⟨hP1, hD1⟩ := hB
        rw [ht] at hP1
        rw [hw]
        obtain ⟨hP, hD⟩ := va_join (wr := ([0, 1, 2, 3, 4] : List Nat).filterMap (fun i => (wDp cy hQ aQ sdQ Q ++ wSt cy (aQ 3) aT (aQ 1) T ++ wNt cy (aQ 1) aG G ++ wSt cy (aQ 4) aU (aQ 1) (U_I, dk_upA (dk_upA U.2 1 U_1) 2 U_2))[i]?)) (w1 := wSt cy (aQ 4) aU (aQ 1) (i90_0, dk_upA (dk_upA U.2 1 g90_1) 2 g90_2) ++ wNt cy (aQ 1) aG G) hP hD [9, 10, 11, 5, 6, 7, 8] [0, 1, 2, 3, 4] rfl rfl (by decide) (by decide) hk1 hFc hP1 hD1
        generalize H1 = H at hP hS ⊢
        have hP : va_P D vwCl (wDp cy hQ aQ sdQ Q ++ wSt cy (aQ 3) aT (aQ 1) T ++ wNt cy (aQ 1) aG G ++ wSt cy (aQ 4) aU (aQ 1) (i90_0, dk_upA (dk_upA U.2 1 g90_1) 2 g90_2)) H := hP.sub [0, 1, 2, 3, 4, 8, 9, 10, 11, 5, 6, 7] rfl
        have hD : va_D A (wDp cy hQ aQ sdQ Q ++ wSt cy (aQ 3) aT (aQ 1) T ++ wNt cy (aQ 1) aG G ++ wSt cy (aQ 4) aU (aQ 1) (i90_0, dk_upA (dk_upA U.2 1 g90_1) 2 g90_2)) := hD.sub [0, 1, 2, 3, 4, 8, 9, 10, 11, 5, 6, 7] (by decide) rfl
        refine dk_ine (tgt := 99) hx hb dX5_judge_93 (by decide) hf (fun hf => ?_) (fun hf => ?_)
        · refine lv_iinc (v := x4 + 1) (lv' := [(4, .int (x4 + 1)), (5, .int (((x2 / d59) - (x2 / d59) / 1000 * 1000).toInt32)), (0, .ref hQ), (1, .int x1), (2, .long x2)]) hx hb dX5_judge_99 hl (k := 4) rfl rfl (by decide) rfl (fun ls hl => ?_)
          refine lv_goto (tgt := 43) hx hb dX5_judge_102 (by decide) ?_
          exact ih43 x1 x2 (x4 + 1) i90_0 g90_1 g90_2 _ _ _ hP hD hS (lv_sub hl [2, 3, 4, 0] rfl) hf
        · refine lv_iload hx hb dX5_judge_96 (lv_at hl 4 rfl) ?_
          have e := Option.some.inj hf
          simp only [Prod.mk.injEq] at e
          obtain ⟨e0, e1, e2, e3⟩ := e
          subst e1
          subst e2
          subst e3
          exact W.iret (v := x4) hx hb hr (fun t ht hW => ⟨⟨x4, (), rfl, e0, by rw [ht]; exact hP, hD⟩, hS.F ht⟩) hS.2.2 dX5_judge_98
  unfold fX5_judge at hf
  refine lv_iload_n hx hb dX5_judge_0 rfl (lv_at hl 1 rfl) ?_
  refine lv_iconst (v := 1) hx hb dX5_judge_1 (by decide) ?_
  refine dk_clt (tgt := 26) hx hb dX5_judge_2 (by decide) hf (fun hf => ?_) (fun hf => ?_)
  · refine lv_bipush (v := (-2)) hx hb dX5_judge_26 (by decide) ?_
    have e := Option.some.inj hf
    simp only [Prod.mk.injEq] at e
    obtain ⟨e0, e1, e2, e3⟩ := e
    subst e1
    subst e2
    subst e3
    exact W.iret (v := (-2)) hx hb hr (fun t ht hW => ⟨⟨(-2), (), rfl, e0, by rw [ht]; exact hP, hD⟩, hS.F ht⟩) hS.2.2 dX5_judge_28
  · refine lv_iload_n hx hb dX5_judge_5 rfl (lv_at hl 1 rfl) ?_
    refine lv_iconst (v := 4) hx hb dX5_judge_6 (by decide) ?_
    refine dk_cgt (tgt := 26) hx hb dX5_judge_7 (by decide) hf (fun hf => ?_) (fun hf => ?_)
    · refine lv_bipush (v := (-2)) hx hb dX5_judge_26 (by decide) ?_
      have e := Option.some.inj hf
      simp only [Prod.mk.injEq] at e
      obtain ⟨e0, e1, e2, e3⟩ := e
      subst e1
      subst e2
      subst e3
      exact W.iret (v := (-2)) hx hb hr (fun t ht hW => ⟨⟨(-2), (), rfl, e0, by rw [ht]; exact hP, hD⟩, hS.F ht⟩) hS.2.2 dX5_judge_28
    · refine lv_lload_n hx hb dX5_judge_10 rfl (lv_at hl 2 rfl) ?_
      refine lv_lconst (v := 0) hx hb dX5_judge_11 (by decide) ?_
      refine W.lcmp hx hb dX5_judge_12 ?_
      refine dk_ilt (tgt := 26) hx hb dX5_judge_13 (by decide) hf (fun hf => ?_) (fun hf => ?_)
      · refine lv_bipush (v := (-2)) hx hb dX5_judge_26 (by decide) ?_
        have e := Option.some.inj hf
        simp only [Prod.mk.injEq] at e
        obtain ⟨e0, e1, e2, e3⟩ := e
        subst e1
        subst e2
        subst e3
        exact W.iret (v := (-2)) hx hb hr (fun t ht hW => ⟨⟨(-2), (), rfl, e0, by rw [ht]; exact hP, hD⟩, hS.F ht⟩) hS.2.2 dX5_judge_28
      · refine lv_lload_n hx hb dX5_judge_16 rfl (lv_at hl 2 rfl) ?_
        refine va_gets hx hb hTb.2.2.1 hS hown (hts (.fieldLink RX5 193 "DarkPlace" "THOUSANDS" "[J") (List.mem_of_getElem? (i := 1) rfl)) (fun _ h9 => h9) dX5_judge_17 ?_
        refine lv_iload_n hx hb dX5_judge_20 rfl (lv_at hl 1 rfl) ?_
        refine dk_tfl hx hb hTb.2.2.2 hS hf dX5_judge_21 (fun d21 hf => ?_)
        refine W.lcmp hx hb dX5_judge_22 ?_
        refine dk_ilt (tgt := 29) hx hb dX5_judge_23 (by decide) hf (fun hf => ?_) (fun hf => ?_)
        · refine lv_aload_n hx hb dX5_judge_29 rfl (lv_at hl 0 rfl) ?_
          refine va_get (D := D) (ci := 5) (v := .ref (aQ 4)) (C := RX5) (T := TX5) (N := 10) hx hb hts iX5_judge_X5 hown hK.1 hP 0 rfl rfl 4 (by decide) (hts (.fieldLink RX5 35 "DarkPlace" "trial" "LDarkPlace$Stand;") (List.mem_of_getElem? (i := 2) rfl)) (fun _ h9 => h9) rfl dX5_judge_30 ?_
          refine lv_aload_n hx hb dX5_judge_33 rfl (lv_at hl 0 rfl) ?_
          refine va_get (D := D) (ci := 5) (v := .ref (aQ 3)) (C := RX5) (T := TX5) (N := 10) hx hb hts iX5_judge_X5 hown hK.1 hP 0 rfl rfl 3 (by decide) (hts (.fieldLink RX5 31 "DarkPlace" "now" "LDarkPlace$Stand;") (List.mem_of_getElem? (i := 3) rfl)) (fun _ h9 => h9) rfl dX5_judge_34 ?_
          obtain ⟨⟨i37_0, g37_1, g37_2⟩, k37, hf⟩ := dk_bind hf
          dsimp only at hf
          have hPc := hP.sub (ws' := wSt cy (aQ 4) aU (aQ 1) U ++ wSt cy (aQ 3) aT (aQ 1) T) [9, 10, 11, 2, 3, 4] rfl
          have hDc := hD.sub (ws' := wSt cy (aQ 4) aU (aQ 1) U ++ wSt cy (aQ 3) aT (aQ 1) T) [9, 10, 11, 2, 3, 4] (by decide) rfl
          have hFc := va_free (wc := wSt cy (aQ 4) aU (aQ 1) U ++ wSt cy (aQ 3) aT (aQ 1) T) hD hS hA [9, 10, 11, 2, 3, 4] rfl
          refine va_callv (va_runV (As := [.ref (aQ 3)]) (rest := []) ⟨hx, hb, hml, hown, hts⟩ (kX3_become l D cy (aQ 4) aU (aQ 1) (aQ 3) aT (aQ 1) s.heap.size U T i37_0 g37_1 g37_2 k37) (cwV 1 hts gX5_judge_X3_become rfl rfl rfl (by decide +kernel) ⟨Nat.le_of_ble_eq_true rfl, Nat.le_of_ble_eq_true rfl⟩) (dk_premV hK hPc hDc (ci := 3) (q0 := 0) rfl rfl) rfl rfl hl.1 rfl (lv_room (Nat.le_of_ble_eq_true rfl)) dX5_judge_37 ⟨Nat.zero_le _, Nat.zero_le _⟩) hS (fun q _ h => hFc q h) hFc (fun u t H1 locs ht hvm hw hB hz1 hk1 hS => ?_)
          obtain ⟨hP1, hD1⟩ := hB
          rw [ht] at hP1
          obtain ⟨hP, hD⟩ := va_join (wr := ([0, 1, 5, 6, 7, 8] : List Nat).filterMap (fun i => (wDp cy hQ aQ sdQ Q ++ wSt cy (aQ 3) aT (aQ 1) T ++ wNt cy (aQ 1) aG G ++ wSt cy (aQ 4) aU (aQ 1) U)[i]?)) (w1 := wSt cy (aQ 4) aU (aQ 1) (i37_0, dk_upA (dk_upA U.2 1 g37_1) 2 g37_2) ++ wSt cy (aQ 3) aT (aQ 1) T) hP hD [9, 10, 11, 2, 3, 4] [0, 1, 5, 6, 7, 8] rfl rfl (by decide) (by decide) hk1 hFc hP1 hD1
          generalize H1 = H at hP hS ⊢
          have hP : va_P D vwCl (wDp cy hQ aQ sdQ Q ++ wSt cy (aQ 3) aT (aQ 1) T ++ wNt cy (aQ 1) aG G ++ wSt cy (aQ 4) aU (aQ 1) (i37_0, dk_upA (dk_upA U.2 1 g37_1) 2 g37_2)) H := hP.sub [0, 1, 9, 10, 11, 2, 3, 4, 5, 6, 7, 8] rfl
          have hD : va_D A (wDp cy hQ aQ sdQ Q ++ wSt cy (aQ 3) aT (aQ 1) T ++ wNt cy (aQ 1) aG G ++ wSt cy (aQ 4) aU (aQ 1) (i37_0, dk_upA (dk_upA U.2 1 g37_1) 2 g37_2)) := hD.sub [0, 1, 9, 10, 11, 2, 3, 4, 5, 6, 7, 8] (by decide) rfl
          refine lv_iconst (v := 0) hx hb dX5_judge_40 (by decide) ?_
          refine lv_istore (lv' := [(4, .int 0), (0, .ref hQ), (1, .int v1), (2, .long v2)]) hx hb dX5_judge_41 hl (by decide) rfl (fun ls hl => ?_)
          exact L43 1000 v1 v2 0 i37_0 g37_1 g37_2 _ _ _ hP hD hS (lv_sub hl [1, 2, 3, 0] rfl) hf
        · refine lv_bipush (v := (-2)) hx hb dX5_judge_26 (by decide) ?_
          have e := Option.some.inj hf
          simp only [Prod.mk.injEq] at e
          obtain ⟨e0, e1, e2, e3⟩ := e
          subst e1
          subst e2
          subst e3
          exact W.iret (v := (-2)) hx hb hr (fun t ht hW => ⟨⟨(-2), (), rfl, e0, by rw [ht]; exact hP, hD⟩, hS.F ht⟩) hS.2.2 dX5_judge_28
theorem iX5_gainInAllOrders_X5 : ∀ w ∈ wsX50, w ∈ wsX5_gainInAllOrders := fun _ h => List.mem_cons_of_mem _ (List.mem_append_left _ (List.mem_append_left _ (List.mem_append_right _ h)))
set_option maxHeartbeats 4000000 in
set_option maxRecDepth 100000 in
theorem kX5_gainInAllOrders (l : Launch) (D : va_G) (cy : Nat → ClassId) (hQ : Nat) (aQ : Nat → Nat) (sdQ : Int64) (aT : Nat → Nat) (aG : Nat → Nat) (aU : Nat → Nat) (sz tF tT : Nat) (Q : dk_O) (T : dk_O) (G : dk_O) (U : dk_O) (v1 : Int32) (r : Int32) (oU_I : (Nat → Int32)) (oU_1 : (Nat → Int32)) (oU_2 : (Nat → Int32)) (hf : fX5_gainInAllOrders Q T G U v1 = some (r, oU_I, oU_1, oU_2)) : dk_MuIS l yX5_gainInAllOrders wsX5_gainInAllOrders ({ frames := 5, cells := 0, slots := 0, locals := 118 }) D cy [.ref hQ, .int v1] (wDp cy hQ aQ sdQ Q ++ wSt cy (aQ 3) aT (aQ 1) T ++ wNt cy (aQ 1) aG G ++ wSt cy (aQ 4) aU (aQ 1) U) (wDp cy hQ aQ sdQ Q ++ wSt cy (aQ 3) aT (aQ 1) T ++ wNt cy (aQ 1) aG G ++ wSt cy (aQ 4) aU (aQ 1) (oU_I, dk_upA (dk_upA U.2 1 oU_1) 2 oU_2)) sz tF tT r := by
  refine Met.ofW (cc := cX5_gainInAllOrders) (maxL := 8) (ret := (some .int)) (by decide) rfl ?_
  intro p e s m args below meth c s₁ B hml hv
  obtain ⟨rfl, ⟨hsz, hP, hK, hD0⟩, hTb⟩ := hv
  have hx := B.exec
  have hb := B.bytes
  have hr := B.returns
  have hts := atoms_spec (ws := wsX5_gainInAllOrders) B.pre
  have hown : s.vm.findClass RX5 = some m.cls := findClass_of_methodNamed B.named
  have hlocks := B.notSynchronized
  subst hsz
  have hD := hD0.self (sz := s.heap.size)
  generalize hAe : va_A (wDp cy hQ aQ sdQ Q ++ wSt cy (aQ 3) aT (aQ 1) T ++ wNt cy (aQ 1) aG G ++ wSt cy (aQ 4) aU (aQ 1) U) s.heap.size = A at hD hTb ⊢
  have hA : ∀ q : Nat, s.heap.size ≤ q → A q := fun q h => by rw [← hAe]; exact Or.inr h
  have hS : va_S A s.heap s.heap [] := va_S.rf
  have hl := lv_entry ([.ref hQ, .int v1]) (n := 8) (Nat.le_of_ble_eq_true rfl)
  rw [lg_entry_eq]
  generalize (lg_sl ([.ref hQ, .int v1]) ++ List.replicate (8 - (lg_sl ([.ref hQ, .int v1])).length) Slot.unset).toArray = ls at hl ⊢
  have hl : lv_has ls 8 [(0, .ref hQ), (1, .int v1)] := hl
  have L25 : ∀ (fu25 : Nat) (x1 : Int32) (x2 : Int32) (x3 : Int32) (x4 : Int32) (x5 : Int32) (U_I : (Nat → Int32)) (U_1 : (Nat → Int32)) (U_2 : (Nat → Int32)) (H : Heap) (locs : List Loc) (ls : Array Slot), va_P D vwCl (wDp cy hQ aQ sdQ Q ++ wSt cy (aQ 3) aT (aQ 1) T ++ wNt cy (aQ 1) aG G ++ wSt cy (aQ 4) aU (aQ 1) (U_I, dk_upA (dk_upA U.2 1 U_1) 2 U_2)) H → va_D A (wDp cy hQ aQ sdQ Q ++ wSt cy (aQ 3) aT (aQ 1) T ++ wNt cy (aQ 1) aG G ++ wSt cy (aQ 4) aU (aQ 1) (U_I, dk_upA (dk_upA U.2 1 U_1) 2 U_2)) → va_S A s.heap H locs → lv_has ls 8 [(0, .ref hQ), (1, .int x1), (2, .int x2), (3, .int x3), (4, .int x4), (5, .int x5)] → fX5_gainInAllOrders_L25 Q T G U fu25 x1 x2 x3 x4 x5 U_I U_1 U_2 = some (r, oU_I, oU_1, oU_2) → W p l e (headSpec wsX5_gainInAllOrders ({ frames := 5, cells := 0, slots := 0, locals := 118 })).room s m ([.ref hQ, .int v1]).toArray below meth c H locs 0 0 (MQ below (va_Qi (fun (x : Int32) (_ : Unit) => x = r) (dk_B D (wDp cy hQ aQ sdQ Q ++ wSt cy (aQ 3) aT (aQ 1) T ++ wNt cy (aQ 1) aG G ++ wSt cy (aQ 4) aU (aQ 1) (oU_I, dk_upA (dk_upA U.2 1 oU_1) 2 oU_2)) A) A) ([.ref hQ, .int v1]).toArray s 0 0 A) (F0 m 25 ls []) := by
    intro fu25
    induction fu25 with
    | zero =>
      intro x1 x2 x3 x4 x5 U_I U_1 U_2 H locs ls hP hD hS hl hf
      rw [fX5_gainInAllOrders_L25] at hf
      cases hf
    | succ fu25 ih25 =>
      intro x1 x2 x3 x4 x5 U_I U_1 U_2 H locs ls hP hD hS hl hf
      rw [fX5_gainInAllOrders_L25] at hf
      refine lv_iload hx hb dX5_gainInAllOrders_25 (lv_at hl 5 rfl) ?_
      refine lv_bipush (v := 15) hx hb dX5_gainInAllOrders_27 (by decide) ?_
      refine dk_cgt (tgt := 96) hx hb dX5_gainInAllOrders_29 (by decide) hf (fun hf => ?_) (fun hf => ?_)
      · refine lv_iload hx hb dX5_gainInAllOrders_96 (lv_at hl 4 rfl) ?_
        have e := Option.some.inj hf
        simp only [Prod.mk.injEq] at e
        obtain ⟨e0, e1, e2, e3⟩ := e
        subst e1
        subst e2
        subst e3
        exact W.iret (v := x4) hx hb hr (fun t ht hW => ⟨⟨x4, (), rfl, e0, by rw [ht]; exact hP, hD⟩, hS.F ht⟩) hS.2.2 dX5_gainInAllOrders_98
      · refine lv_iload hx hb dX5_gainInAllOrders_32 (lv_at hl 5 rfl) ?_
        refine lv_iload_n hx hb dX5_gainInAllOrders_34 rfl (lv_at hl 2 rfl) ?_
        refine lv_iconst (v := (-1)) hx hb dX5_gainInAllOrders_35 (by decide) ?_
        refine lv_ixor hx hb dX5_gainInAllOrders_36 ?_
        refine lv_iand hx hb dX5_gainInAllOrders_37 ?_
        refine dk_ine (tgt := 90) hx hb dX5_gainInAllOrders_38 (by decide) hf (fun hf => ?_) (fun hf => ?_)
        · refine lv_iinc (v := x5 + 1) (lv' := [(5, .int (x5 + 1)), (0, .ref hQ), (1, .int x1), (2, .int x2), (3, .int x3), (4, .int x4)]) hx hb dX5_gainInAllOrders_90 hl (k := 5) rfl rfl (by decide) rfl (fun ls hl => ?_)
          refine lv_goto (tgt := 25) hx hb dX5_gainInAllOrders_93 (by decide) ?_
          exact ih25 x1 x2 x3 x4 (x5 + 1) U_I U_1 U_2 _ _ _ hP hD hS (lv_sub hl [1, 2, 3, 4, 5, 0] rfl) hf
        · refine lv_iload hx hb dX5_gainInAllOrders_41 (lv_at hl 5 rfl) ?_
          obtain ⟨r43, k43, hf⟩ := dk_bind hf
          refine dk_ri (va_runS (As := [.int x5]) (rest := []) ⟨hx, hb, hml, hown, hts⟩ (kJ6_bitCount_0f7a4 l D cy x5 r43 k43) (va_cwS 1 hts gX5_gainInAllOrders_J6_bitCount_0f7a4 rfl rfl rfl (by decide +kernel) ⟨Nat.le_of_ble_eq_true rfl, Nat.le_of_ble_eq_true rfl⟩) (dk_preS hK (hP.sub (ws' := []) [] rfl)) rfl rfl hl.1 rfl (lv_room (Nat.le_of_ble_eq_true rfl)) dX5_gainInAllOrders_43 ⟨Nat.zero_le _, Nat.zero_le _⟩) ?_
          refine lv_istore (lv' := [(6, .int r43), (0, .ref hQ), (1, .int x1), (2, .int x2), (3, .int x3), (4, .int x4), (5, .int x5)]) hx hb dX5_gainInAllOrders_46 hl (by decide) rfl (fun ls hl => ?_)
          refine va_gets hx hb hTb.1 hS hown (hts (.fieldLink RX5 219 "DarkPlace" "FACTORIALS" "[I") (List.mem_of_getElem? (i := 2) rfl)) (fun _ h9 => h9) dX5_gainInAllOrders_48 ?_
          refine lv_iload hx hb dX5_gainInAllOrders_51 (lv_at hl 0 rfl) ?_
          refine dk_tfi hx hb hTb.2.1 hS hf dX5_gainInAllOrders_53 (fun d53 hf => ?_)
          refine va_gets hx hb hTb.1 hS hown (hts (.fieldLink RX5 219 "DarkPlace" "FACTORIALS" "[I") (List.mem_of_getElem? (i := 2) rfl)) (fun _ h9 => h9) dX5_gainInAllOrders_54 ?_
          refine lv_iload_n hx hb dX5_gainInAllOrders_57 rfl (lv_at hl 4 rfl) ?_
          refine lv_iload hx hb dX5_gainInAllOrders_58 (lv_at hl 0 rfl) ?_
          refine lv_isub hx hb dX5_gainInAllOrders_60 ?_
          refine dk_tfi hx hb hTb.2.1 hS hf dX5_gainInAllOrders_61 (fun d61 hf => ?_)
          refine lv_imul hx hb dX5_gainInAllOrders_62 ?_
          refine lv_istore (lv' := [(7, .int (d53 * d61)), (6, .int r43), (0, .ref hQ), (1, .int x1), (2, .int x2), (3, .int x3), (4, .int x4), (5, .int x5)]) hx hb dX5_gainInAllOrders_63 hl (by decide) rfl (fun ls hl => ?_)
          refine lv_iload hx hb dX5_gainInAllOrders_65 (lv_at hl 6 rfl) ?_
          refine lv_iload hx hb dX5_gainInAllOrders_67 (lv_at hl 0 rfl) ?_
          refine lv_aload_n hx hb dX5_gainInAllOrders_69 rfl (lv_at hl 2 rfl) ?_
          refine lv_iload hx hb dX5_gainInAllOrders_70 (lv_at hl 7 rfl) ?_
          refine lv_iconst (v := 1) hx hb dX5_gainInAllOrders_72 (by decide) ?_
          refine lv_iload_n hx hb dX5_gainInAllOrders_73 rfl (lv_at hl 3 rfl) ?_
          refine lv_ishl hx hb dX5_gainInAllOrders_74 ?_
          refine lv_ior hx hb dX5_gainInAllOrders_75 ?_
          obtain ⟨⟨r76, i76_0, g76_1, g76_2⟩, k76, hf⟩ := dk_bind hf
          dsimp only at hf
          have hPc := hP.sub (ws' := wDp cy hQ aQ sdQ Q ++ wSt cy (aQ 3) aT (aQ 1) T ++ wNt cy (aQ 1) aG G ++ wSt cy (aQ 4) aU (aQ 1) (U_I, dk_upA (dk_upA U.2 1 U_1) 2 U_2)) [0, 1, 2, 3, 4, 5, 6, 7, 8, 9, 10, 11] rfl
          have hDc := hD.sub (ws' := wDp cy hQ aQ sdQ Q ++ wSt cy (aQ 3) aT (aQ 1) T ++ wNt cy (aQ 1) aG G ++ wSt cy (aQ 4) aU (aQ 1) (U_I, dk_upA (dk_upA U.2 1 U_1) 2 U_2)) [0, 1, 2, 3, 4, 5, 6, 7, 8, 9, 10, 11] (by decide) rfl
          have hFc := va_free (wc := wDp cy hQ aQ sdQ Q ++ wSt cy (aQ 3) aT (aQ 1) T ++ wNt cy (aQ 1) aG G ++ wSt cy (aQ 4) aU (aQ 1) (U_I, dk_upA (dk_upA U.2 1 U_1) 2 U_2)) hD hS hA [0, 1, 2, 3, 4, 5, 6, 7, 8, 9, 10, 11] rfl
          refine va_calli (va_runV (As := [.int (x5 ||| ((1 : Int32) <<< (x1 &&& 31)))]) (rest := [.int (d53 * d61), .int x4]) ⟨hx, hb, hml, hown, hts⟩ (kX5_visitedBy l D cy hQ aQ sdQ aT aG aU H.size Q T G (U_I, dk_upA (dk_upA U.2 1 U_1) 2 U_2) (x5 ||| ((1 : Int32) <<< (x1 &&& 31))) r76 i76_0 g76_1 g76_2 k76) (cwV 1 hts gX5_gainInAllOrders_X5_visitedBy rfl rfl rfl (by decide +kernel) ⟨Nat.le_of_ble_eq_true rfl, Nat.le_of_ble_eq_true rfl⟩) (dk_premV hK hPc hDc (ci := 5) (q0 := 0) rfl rfl) rfl rfl hl.1 rfl (lv_room (Nat.le_of_ble_eq_true rfl)) dX5_gainInAllOrders_76 ⟨Nat.zero_le _, Nat.zero_le _⟩) hS (fun q _ h => hFc q h) hFc (fun xr76 u t H1 locs ht hvm hw hB hz1 hk1 hS => ?_)
          obtain ⟨hP1, hD1⟩ := hB
          rw [ht] at hP1
          rw [hw]
          obtain ⟨hP, hD⟩ := va_join (wr := ([] : List Nat).filterMap (fun i => (wDp cy hQ aQ sdQ Q ++ wSt cy (aQ 3) aT (aQ 1) T ++ wNt cy (aQ 1) aG G ++ wSt cy (aQ 4) aU (aQ 1) (U_I, dk_upA (dk_upA U.2 1 U_1) 2 U_2))[i]?)) (w1 := wDp cy hQ aQ sdQ Q ++ wSt cy (aQ 3) aT (aQ 1) T ++ wNt cy (aQ 1) aG G ++ wSt cy (aQ 4) aU (aQ 1) (i76_0, dk_upA (dk_upA U.2 1 g76_1) 2 g76_2)) hP hD [0, 1, 2, 3, 4, 5, 6, 7, 8, 9, 10, 11] [] rfl rfl (by decide) (by decide) hk1 hFc hP1 hD1
          generalize H1 = H at hP hS ⊢
          have hP : va_P D vwCl (wDp cy hQ aQ sdQ Q ++ wSt cy (aQ 3) aT (aQ 1) T ++ wNt cy (aQ 1) aG G ++ wSt cy (aQ 4) aU (aQ 1) (i76_0, dk_upA (dk_upA U.2 1 g76_1) 2 g76_2)) H := hP.sub [0, 1, 2, 3, 4, 5, 6, 7, 8, 9, 10, 11] rfl
          have hD : va_D A (wDp cy hQ aQ sdQ Q ++ wSt cy (aQ 3) aT (aQ 1) T ++ wNt cy (aQ 1) aG G ++ wSt cy (aQ 4) aU (aQ 1) (i76_0, dk_upA (dk_upA U.2 1 g76_1) 2 g76_2)) := hD.sub [0, 1, 2, 3, 4, 5, 6, 7, 8, 9, 10, 11] (by decide) rfl
          refine lv_aload_n hx hb dX5_gainInAllOrders_79 rfl (lv_at hl 2 rfl) ?_
          refine lv_iload hx hb dX5_gainInAllOrders_80 (lv_at hl 7 rfl) ?_
          obtain ⟨⟨r82, i82_0, g82_1, g82_2⟩, k82, hf⟩ := dk_bind hf
          dsimp only at hf
          have hPc := hP.sub (ws' := wDp cy hQ aQ sdQ Q ++ wSt cy (aQ 3) aT (aQ 1) T ++ wNt cy (aQ 1) aG G ++ wSt cy (aQ 4) aU (aQ 1) (i76_0, dk_upA (dk_upA U.2 1 g76_1) 2 g76_2)) [0, 1, 2, 3, 4, 5, 6, 7, 8, 9, 10, 11] rfl
          have hDc := hD.sub (ws' := wDp cy hQ aQ sdQ Q ++ wSt cy (aQ 3) aT (aQ 1) T ++ wNt cy (aQ 1) aG G ++ wSt cy (aQ 4) aU (aQ 1) (i76_0, dk_upA (dk_upA U.2 1 g76_1) 2 g76_2)) [0, 1, 2, 3, 4, 5, 6, 7, 8, 9, 10, 11] (by decide) rfl
          have hFc := va_free (wc := wDp cy hQ aQ sdQ Q ++ wSt cy (aQ 3) aT (aQ 1) T ++ wNt cy (aQ 1) aG G ++ wSt cy (aQ 4) aU (aQ 1) (i76_0, dk_upA (dk_upA U.2 1 g76_1) 2 g76_2)) hD hS hA [0, 1, 2, 3, 4, 5, 6, 7, 8, 9, 10, 11] rfl
          refine va_calli (va_runV (As := [.int x5]) (rest := [.int r76, .int (d53 * d61), .int x4]) ⟨hx, hb, hml, hown, hts⟩ (kX5_visitedBy l D cy hQ aQ sdQ aT aG aU H.size Q T G (i76_0, dk_upA (dk_upA U.2 1 g76_1) 2 g76_2) x5 r82 i82_0 g82_1 g82_2 k82) (cwV 1 hts gX5_gainInAllOrders_X5_visitedBy rfl rfl rfl (by decide +kernel) ⟨Nat.le_of_ble_eq_true rfl, Nat.le_of_ble_eq_true rfl⟩) (dk_premV hK hPc hDc (ci := 5) (q0 := 0) rfl rfl) rfl rfl hl.1 rfl (lv_room (Nat.le_of_ble_eq_true rfl)) dX5_gainInAllOrders_82 ⟨Nat.zero_le _, Nat.zero_le _⟩) hS (fun q _ h => hFc q h) hFc (fun xr82 u t H1 locs ht hvm hw hB hz1 hk1 hS => ?_)
          obtain ⟨hP1, hD1⟩ := hB
          rw [ht] at hP1
          rw [hw]
          obtain ⟨hP, hD⟩ := va_join (wr := ([] : List Nat).filterMap (fun i => (wDp cy hQ aQ sdQ Q ++ wSt cy (aQ 3) aT (aQ 1) T ++ wNt cy (aQ 1) aG G ++ wSt cy (aQ 4) aU (aQ 1) (i76_0, dk_upA (dk_upA U.2 1 g76_1) 2 g76_2))[i]?)) (w1 := wDp cy hQ aQ sdQ Q ++ wSt cy (aQ 3) aT (aQ 1) T ++ wNt cy (aQ 1) aG G ++ wSt cy (aQ 4) aU (aQ 1) (i82_0, dk_upA (dk_upA U.2 1 g82_1) 2 g82_2)) hP hD [0, 1, 2, 3, 4, 5, 6, 7, 8, 9, 10, 11] [] rfl rfl (by decide) (by decide) hk1 hFc hP1 hD1
          generalize H1 = H at hP hS ⊢
          have hP : va_P D vwCl (wDp cy hQ aQ sdQ Q ++ wSt cy (aQ 3) aT (aQ 1) T ++ wNt cy (aQ 1) aG G ++ wSt cy (aQ 4) aU (aQ 1) (i82_0, dk_upA (dk_upA U.2 1 g82_1) 2 g82_2)) H := hP.sub [0, 1, 2, 3, 4, 5, 6, 7, 8, 9, 10, 11] rfl
          have hD : va_D A (wDp cy hQ aQ sdQ Q ++ wSt cy (aQ 3) aT (aQ 1) T ++ wNt cy (aQ 1) aG G ++ wSt cy (aQ 4) aU (aQ 1) (i82_0, dk_upA (dk_upA U.2 1 g82_1) 2 g82_2)) := hD.sub [0, 1, 2, 3, 4, 5, 6, 7, 8, 9, 10, 11] (by decide) rfl
          refine lv_isub hx hb dX5_gainInAllOrders_85 ?_
          refine lv_imul hx hb dX5_gainInAllOrders_86 ?_
          refine lv_iadd hx hb dX5_gainInAllOrders_87 ?_
          refine lv_istore (lv' := [(4, .int (x4 + ((d53 * d61) * (r76 - r82)))), (7, .int (d53 * d61)), (6, .int r43), (0, .ref hQ), (1, .int x1), (2, .int x2), (3, .int x3), (5, .int x5)]) hx hb dX5_gainInAllOrders_88 hl (by decide) rfl (fun ls hl => ?_)
          refine lv_iinc (v := x5 + 1) (lv' := [(5, .int (x5 + 1)), (4, .int (x4 + ((d53 * d61) * (r76 - r82)))), (7, .int (d53 * d61)), (6, .int r43), (0, .ref hQ), (1, .int x1), (2, .int x2), (3, .int x3)]) hx hb dX5_gainInAllOrders_90 hl (k := 7) rfl rfl (by decide) rfl (fun ls hl => ?_)
          refine lv_goto (tgt := 25) hx hb dX5_gainInAllOrders_93 (by decide) ?_
          exact ih25 x1 x2 x3 (x4 + ((d53 * d61) * (r76 - r82))) (x5 + 1) i82_0 g82_1 g82_2 _ _ _ hP hD hS (lv_sub hl [4, 5, 6, 7, 1, 0] rfl) hf
  unfold fX5_gainInAllOrders at hf
  refine lv_aload_n hx hb dX5_gainInAllOrders_0 rfl (lv_at hl 0 rfl) ?_
  refine va_get (D := D) (ci := 5) (v := .ref (aQ 3)) (C := RX5) (T := TX5) (N := 10) hx hb hts iX5_gainInAllOrders_X5 hown hK.1 hP 0 rfl rfl 3 (by decide) (hts (.fieldLink RX5 31 "DarkPlace" "now" "LDarkPlace$Stand;") (List.mem_of_getElem? (i := 1) rfl)) (fun _ h9 => h9) rfl dX5_gainInAllOrders_1 ?_
  obtain ⟨r4, k4, hf⟩ := dk_bind hf
  refine dk_ri (va_runV (As := []) (rest := []) ⟨hx, hb, hml, hown, hts⟩ (kX3_livingOnes l D cy (aQ 3) aT (aQ 1) aG T G r4 k4) (cwV 0 hts gX5_gainInAllOrders_X3_livingOnes rfl rfl rfl (by decide +kernel) ⟨Nat.le_of_ble_eq_true rfl, Nat.le_of_ble_eq_true rfl⟩) (dk_preV hK (hP.sub (ws' := wSt cy (aQ 3) aT (aQ 1) T ++ wNt cy (aQ 1) aG G) [2, 3, 4, 5, 6, 7, 8] rfl) (ci := 3) (q0 := 0) rfl rfl) rfl rfl hl.1 rfl (lv_room (Nat.le_of_ble_eq_true rfl)) dX5_gainInAllOrders_4 ⟨Nat.zero_le _, Nat.zero_le _⟩) ?_
  refine lv_iconst (v := 1) hx hb dX5_gainInAllOrders_7 (by decide) ?_
  refine lv_iload_n hx hb dX5_gainInAllOrders_8 rfl (lv_at hl 1 rfl) ?_
  refine lv_ishl hx hb dX5_gainInAllOrders_9 ?_
  refine lv_iconst (v := (-1)) hx hb dX5_gainInAllOrders_10 (by decide) ?_
  refine lv_ixor hx hb dX5_gainInAllOrders_11 ?_
  refine lv_iand hx hb dX5_gainInAllOrders_12 ?_
  refine lv_istore_n (lv' := [(2, .int (r4 &&& (((1 : Int32) <<< (v1 &&& 31)) ^^^ (-1)))), (0, .ref hQ), (1, .int v1)]) hx hb dX5_gainInAllOrders_13 rfl hl (by decide) rfl (fun ls hl => ?_)
  refine lv_iload_n hx hb dX5_gainInAllOrders_14 rfl (lv_at hl 0 rfl) ?_
  obtain ⟨r15, k15, hf⟩ := dk_bind hf
  refine dk_ri (va_runS (As := [.int (r4 &&& (((1 : Int32) <<< (v1 &&& 31)) ^^^ (-1)))]) (rest := []) ⟨hx, hb, hml, hown, hts⟩ (kJ6_bitCount_0f7a4 l D cy (r4 &&& (((1 : Int32) <<< (v1 &&& 31)) ^^^ (-1))) r15 k15) (va_cwS 1 hts gX5_gainInAllOrders_J6_bitCount_0f7a4 rfl rfl rfl (by decide +kernel) ⟨Nat.le_of_ble_eq_true rfl, Nat.le_of_ble_eq_true rfl⟩) (dk_preS hK (hP.sub (ws' := []) [] rfl)) rfl rfl hl.1 rfl (lv_room (Nat.le_of_ble_eq_true rfl)) dX5_gainInAllOrders_15 ⟨Nat.zero_le _, Nat.zero_le _⟩) ?_
  refine lv_istore_n (lv' := [(3, .int r15), (2, .int (r4 &&& (((1 : Int32) <<< (v1 &&& 31)) ^^^ (-1)))), (0, .ref hQ), (1, .int v1)]) hx hb dX5_gainInAllOrders_18 rfl hl (by decide) rfl (fun ls hl => ?_)
  refine lv_iconst (v := 0) hx hb dX5_gainInAllOrders_19 (by decide) ?_
  refine lv_istore (lv' := [(4, .int 0), (3, .int r15), (2, .int (r4 &&& (((1 : Int32) <<< (v1 &&& 31)) ^^^ (-1)))), (0, .ref hQ), (1, .int v1)]) hx hb dX5_gainInAllOrders_20 hl (by decide) rfl (fun ls hl => ?_)
  refine lv_iconst (v := 0) hx hb dX5_gainInAllOrders_22 (by decide) ?_
  refine lv_istore (lv' := [(5, .int 0), (4, .int 0), (3, .int r15), (2, .int (r4 &&& (((1 : Int32) <<< (v1 &&& 31)) ^^^ (-1)))), (0, .ref hQ), (1, .int v1)]) hx hb dX5_gainInAllOrders_23 hl (by decide) rfl (fun ls hl => ?_)
  exact L25 1000 v1 (r4 &&& (((1 : Int32) <<< (v1 &&& 31)) ^^^ (-1))) r15 0 0 U.1 (U.2 1) (U.2 2) _ _ _ hP hD hS (lv_sub hl [4, 5, 3, 2, 1, 0] rfl) hf
theorem iX5_share_X5 : ∀ w ∈ wsX50, w ∈ wsX5_share := fun _ h => List.mem_cons_of_mem _ (List.mem_append_left _ (List.mem_append_left _ (List.mem_append_right _ h)))
set_option maxHeartbeats 4000000 in
set_option maxRecDepth 100000 in
theorem kX5_share (l : Launch) (D : va_G) (cy : Nat → ClassId) (hQ : Nat) (aQ : Nat → Nat) (sdQ : Int64) (aT : Nat → Nat) (aG : Nat → Nat) (aU : Nat → Nat) (sz tF tT : Nat) (Q : dk_O) (T : dk_O) (G : dk_O) (U : dk_O) (v1 : Int32) (v2 : Int32) (r : Int32) (oU_I : (Nat → Int32)) (oU_1 : (Nat → Int32)) (oU_2 : (Nat → Int32)) (hf : fX5_share Q T G U v1 v2 = some (r, oU_I, oU_1, oU_2)) : dk_MuIS l yX5_share wsX5_share ({ frames := 6, cells := 0, slots := 0, locals := 145 }) D cy [.ref hQ, .int v1, .int v2] (wDp cy hQ aQ sdQ Q ++ wSt cy (aQ 3) aT (aQ 1) T ++ wNt cy (aQ 1) aG G ++ wSt cy (aQ 4) aU (aQ 1) U) (wDp cy hQ aQ sdQ Q ++ wSt cy (aQ 3) aT (aQ 1) T ++ wNt cy (aQ 1) aG G ++ wSt cy (aQ 4) aU (aQ 1) (oU_I, dk_upA (dk_upA U.2 1 oU_1) 2 oU_2)) sz tF tT r := by
  refine Met.ofW (cc := cX5_share) (maxL := 4) (ret := (some .int)) (by decide) rfl ?_
  intro p e s m args below meth c s₁ B hml hv
  obtain ⟨rfl, ⟨hsz, hP, hK, hD0⟩, hTb⟩ := hv
  have hx := B.exec
  have hb := B.bytes
  have hr := B.returns
  have hts := atoms_spec (ws := wsX5_share) B.pre
  have hown : s.vm.findClass RX5 = some m.cls := findClass_of_methodNamed B.named
  have hlocks := B.notSynchronized
  subst hsz
  have hD := hD0.self (sz := s.heap.size)
  generalize hAe : va_A (wDp cy hQ aQ sdQ Q ++ wSt cy (aQ 3) aT (aQ 1) T ++ wNt cy (aQ 1) aG G ++ wSt cy (aQ 4) aU (aQ 1) U) s.heap.size = A at hD hTb ⊢
  have hA : ∀ q : Nat, s.heap.size ≤ q → A q := fun q h => by rw [← hAe]; exact Or.inr h
  have hS : va_S A s.heap s.heap [] := va_S.rf
  have hl := lv_entry ([.ref hQ, .int v1, .int v2]) (n := 4) (Nat.le_of_ble_eq_true rfl)
  rw [lg_entry_eq]
  generalize (lg_sl ([.ref hQ, .int v1, .int v2]) ++ List.replicate (4 - (lg_sl ([.ref hQ, .int v1, .int v2])).length) Slot.unset).toArray = ls at hl ⊢
  have hl : lv_has ls 4 [(0, .ref hQ), (1, .int v1), (2, .int v2)] := hl
  unfold fX5_share at hf
  refine lv_aload_n hx hb dX5_share_0 rfl (lv_at hl 0 rfl) ?_
  refine va_get (D := D) (ci := 5) (v := .ref (aQ 3)) (C := RX5) (T := TX5) (N := 10) hx hb hts iX5_share_X5 hown hK.1 hP 0 rfl rfl 3 (by decide) (hts (.fieldLink RX5 31 "DarkPlace" "now" "LDarkPlace$Stand;") (List.mem_of_getElem? (i := 1) rfl)) (fun _ h9 => h9) rfl dX5_share_1 ?_
  refine lv_iload_n hx hb dX5_share_4 rfl (lv_at hl 1 rfl) ?_
  obtain ⟨r5, k5, hf⟩ := dk_bind hf
  refine dk_ri (va_runV (As := [.int v1]) (rest := []) ⟨hx, hb, hml, hown, hts⟩ (kX3_isSearcher l D cy (aQ 3) aT (aQ 1) aG T G v1 r5 k5) (cwV 1 hts gX5_share_X3_isSearcher rfl rfl rfl (by decide +kernel) ⟨Nat.le_of_ble_eq_true rfl, Nat.le_of_ble_eq_true rfl⟩) (dk_preV hK (hP.sub (ws' := wSt cy (aQ 3) aT (aQ 1) T ++ wNt cy (aQ 1) aG G) [2, 3, 4, 5, 6, 7, 8] rfl) (ci := 3) (q0 := 0) rfl rfl) rfl rfl hl.1 rfl (lv_room (Nat.le_of_ble_eq_true rfl)) dX5_share_5 ⟨Nat.zero_le _, Nat.zero_le _⟩) ?_
  refine dk_ine (tgt := 13) hx hb dX5_share_8 (by decide) hf (fun hf => ?_) (fun hf => ?_)
  · refine lv_aload_n hx hb dX5_share_13 rfl (lv_at hl 0 rfl) ?_
    refine va_get (D := D) (ci := 5) (v := .ref (aQ 3)) (C := RX5) (T := TX5) (N := 10) hx hb hts iX5_share_X5 hown hK.1 hP 0 rfl rfl 3 (by decide) (hts (.fieldLink RX5 31 "DarkPlace" "now" "LDarkPlace$Stand;") (List.mem_of_getElem? (i := 1) rfl)) (fun _ h9 => h9) rfl dX5_share_14 ?_
    refine lv_iload_n hx hb dX5_share_17 rfl (lv_at hl 1 rfl) ?_
    obtain ⟨r18, k18, hf⟩ := dk_bind hf
    refine dk_ri (va_runV (As := [.int v1]) (rest := []) ⟨hx, hb, hml, hown, hts⟩ (kX3_lives l D cy (aQ 3) aT (aQ 1) aG T G v1 r18 k18) (cwV 1 hts gX5_share_X3_lives rfl rfl rfl (by decide +kernel) ⟨Nat.le_of_ble_eq_true rfl, Nat.le_of_ble_eq_true rfl⟩) (dk_preV hK (hP.sub (ws' := wSt cy (aQ 3) aT (aQ 1) T ++ wNt cy (aQ 1) aG G) [2, 3, 4, 5, 6, 7, 8] rfl) (ci := 3) (q0 := 0) rfl rfl) rfl rfl hl.1 rfl (lv_room (Nat.le_of_ble_eq_true rfl)) dX5_share_18 ⟨Nat.zero_le _, Nat.zero_le _⟩) ?_
    refine dk_ine (tgt := 27) hx hb dX5_share_21 (by decide) hf (fun hf => ?_) (fun hf => ?_)
    · refine va_gets hx hb hTb.1 hS hown (hts (.fieldLink RX5 219 "DarkPlace" "FACTORIALS" "[I") (List.mem_of_getElem? (i := 2) rfl)) (fun _ h9 => h9) dX5_share_27 ?_
      refine lv_aload_n hx hb dX5_share_30 rfl (lv_at hl 0 rfl) ?_
      refine va_get (D := D) (ci := 5) (v := .ref (aQ 3)) (C := RX5) (T := TX5) (N := 10) hx hb hts iX5_share_X5 hown hK.1 hP 0 rfl rfl 3 (by decide) (hts (.fieldLink RX5 31 "DarkPlace" "now" "LDarkPlace$Stand;") (List.mem_of_getElem? (i := 1) rfl)) (fun _ h9 => h9) rfl dX5_share_31 ?_
      obtain ⟨r34, k34, hf⟩ := dk_bind hf
      refine dk_ri (va_runV (As := []) (rest := [.ref tF]) ⟨hx, hb, hml, hown, hts⟩ (kX3_living l D cy (aQ 3) aT (aQ 1) aG T G r34 k34) (cwV 0 hts gX5_share_X3_living rfl rfl rfl (by decide +kernel) ⟨Nat.le_of_ble_eq_true rfl, Nat.le_of_ble_eq_true rfl⟩) (dk_preV hK (hP.sub (ws' := wSt cy (aQ 3) aT (aQ 1) T ++ wNt cy (aQ 1) aG G) [2, 3, 4, 5, 6, 7, 8] rfl) (ci := 3) (q0 := 0) rfl rfl) rfl rfl hl.1 rfl (lv_room (Nat.le_of_ble_eq_true rfl)) dX5_share_34 ⟨Nat.zero_le _, Nat.zero_le _⟩) ?_
      refine dk_tfi hx hb hTb.2.1 hS hf dX5_share_37 (fun d37 hf => ?_)
      refine lv_istore_n (lv' := [(3, .int d37), (0, .ref hQ), (1, .int v1), (2, .int v2)]) hx hb dX5_share_38 rfl hl (by decide) rfl (fun ls hl => ?_)
      refine lv_aload_n hx hb dX5_share_39 rfl (lv_at hl 1 rfl) ?_
      refine lv_iload_n hx hb dX5_share_40 rfl (lv_at hl 2 rfl) ?_
      obtain ⟨⟨r41, i41_0, g41_1, g41_2⟩, k41, hf⟩ := dk_bind hf
      dsimp only at hf
      have hPc := hP.sub (ws' := wDp cy hQ aQ sdQ Q ++ wSt cy (aQ 3) aT (aQ 1) T ++ wNt cy (aQ 1) aG G ++ wSt cy (aQ 4) aU (aQ 1) U) [0, 1, 2, 3, 4, 5, 6, 7, 8, 9, 10, 11] rfl
      have hDc := hD.sub (ws' := wDp cy hQ aQ sdQ Q ++ wSt cy (aQ 3) aT (aQ 1) T ++ wNt cy (aQ 1) aG G ++ wSt cy (aQ 4) aU (aQ 1) U) [0, 1, 2, 3, 4, 5, 6, 7, 8, 9, 10, 11] (by decide) rfl
      have hFc := va_free (wc := wDp cy hQ aQ sdQ Q ++ wSt cy (aQ 3) aT (aQ 1) T ++ wNt cy (aQ 1) aG G ++ wSt cy (aQ 4) aU (aQ 1) U) hD hS hA [0, 1, 2, 3, 4, 5, 6, 7, 8, 9, 10, 11] rfl
      refine va_calli (va_runV (As := [.int v1]) (rest := []) ⟨hx, hb, hml, hown, hts⟩ (kX5_gainInAllOrders l D cy hQ aQ sdQ aT aG aU s.heap.size tF tT Q T G U v1 r41 i41_0 g41_1 g41_2 k41) (cwV 1 hts gX5_share_X5_gainInAllOrders rfl rfl rfl (by decide +kernel) ⟨Nat.le_of_ble_eq_true rfl, Nat.le_of_ble_eq_true rfl⟩) (dk_premVS hK hPc hDc hTb hS hFc (ci := 5) (q0 := 0) rfl rfl) rfl rfl hl.1 rfl (lv_room (Nat.le_of_ble_eq_true rfl)) dX5_share_41 ⟨Nat.zero_le _, Nat.zero_le _⟩) hS (fun q _ h => hFc q h) hFc (fun xr41 u t H1 locs ht hvm hw hB hz1 hk1 hS => ?_)
      obtain ⟨hP1, hD1⟩ := hB
      rw [ht] at hP1
      rw [hw]
      obtain ⟨hP, hD⟩ := va_join (wr := ([] : List Nat).filterMap (fun i => (wDp cy hQ aQ sdQ Q ++ wSt cy (aQ 3) aT (aQ 1) T ++ wNt cy (aQ 1) aG G ++ wSt cy (aQ 4) aU (aQ 1) U)[i]?)) (w1 := wDp cy hQ aQ sdQ Q ++ wSt cy (aQ 3) aT (aQ 1) T ++ wNt cy (aQ 1) aG G ++ wSt cy (aQ 4) aU (aQ 1) (i41_0, dk_upA (dk_upA U.2 1 g41_1) 2 g41_2)) hP hD [0, 1, 2, 3, 4, 5, 6, 7, 8, 9, 10, 11] [] rfl rfl (by decide) (by decide) hk1 hFc hP1 hD1
      generalize H1 = H at hP hS ⊢
      have hP : va_P D vwCl (wDp cy hQ aQ sdQ Q ++ wSt cy (aQ 3) aT (aQ 1) T ++ wNt cy (aQ 1) aG G ++ wSt cy (aQ 4) aU (aQ 1) (i41_0, dk_upA (dk_upA U.2 1 g41_1) 2 g41_2)) H := hP.sub [0, 1, 2, 3, 4, 5, 6, 7, 8, 9, 10, 11] rfl
      have hD : va_D A (wDp cy hQ aQ sdQ Q ++ wSt cy (aQ 3) aT (aQ 1) T ++ wNt cy (aQ 1) aG G ++ wSt cy (aQ 4) aU (aQ 1) (i41_0, dk_upA (dk_upA U.2 1 g41_1) 2 g41_2)) := hD.sub [0, 1, 2, 3, 4, 5, 6, 7, 8, 9, 10, 11] (by decide) rfl
      refine lv_iload_n hx hb dX5_share_44 rfl (lv_at hl 0 rfl) ?_
      refine lv_iload_n hx hb dX5_share_45 rfl (lv_at hl 3 rfl) ?_
      obtain ⟨r46, k46, hf⟩ := dk_bind hf
      refine dk_ri (va_runS (As := [.int r41, .int d37, .int v2]) (rest := []) ⟨hx, hb, hml, hown, hts⟩ (kX5_fraction l D cy r41 d37 v2 r46 k46) (va_cwS 3 hts gX5_share_X5_fraction rfl rfl rfl (by decide +kernel) ⟨Nat.le_of_ble_eq_true rfl, Nat.le_of_ble_eq_true rfl⟩) (dk_preS hK (hP.sub (ws' := []) [] rfl)) rfl rfl hl.1 rfl (lv_room (Nat.le_of_ble_eq_true rfl)) dX5_share_46 ⟨Nat.zero_le _, Nat.zero_le _⟩) ?_
      have e := Option.some.inj hf
      simp only [Prod.mk.injEq] at e
      obtain ⟨e0, e1, e2, e3⟩ := e
      subst e1
      subst e2
      subst e3
      exact W.iret (v := r46) hx hb hr (fun t ht hW => ⟨⟨r46, (), rfl, e0, by rw [ht]; exact hP, hD⟩, hS.F ht⟩) hS.2.2 dX5_share_49
    · refine lv_bipush (v := (-3)) hx hb dX5_share_24 (by decide) ?_
      have e := Option.some.inj hf
      simp only [Prod.mk.injEq] at e
      obtain ⟨e0, e1, e2, e3⟩ := e
      subst e1
      subst e2
      subst e3
      exact W.iret (v := (-3)) hx hb hr (fun t ht hW => ⟨⟨(-3), (), rfl, e0, by rw [ht]; exact hP, hD⟩, hS.F ht⟩) hS.2.2 dX5_share_26
  · refine lv_iconst (v := (-1)) hx hb dX5_share_11 (by decide) ?_
    have e := Option.some.inj hf
    simp only [Prod.mk.injEq] at e
    obtain ⟨e0, e1, e2, e3⟩ := e
    subst e1
    subst e2
    subst e3
    exact W.iret (v := (-1)) hx hb hr (fun t ht hW => ⟨⟨(-1), (), rfl, e0, by rw [ht]; exact hP, hD⟩, hS.F ht⟩) hS.2.2 dX5_share_12
