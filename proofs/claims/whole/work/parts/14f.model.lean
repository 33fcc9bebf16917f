-- printed by wip/gen (walks of the bytecode)
theorem iX6_drawn_X6 : ∀ w ∈ wsX60, w ∈ wsX6_drawn := fun _ h => List.mem_cons_of_mem _ (List.mem_append_right _ h)
set_option maxHeartbeats 4000000 in
set_option maxRecDepth 100000 in
theorem kX6_drawn (l : Launch) (D : va_G) (cy : Nat → ClassId) (hM : Nat) (aM : Nat → Nat) (sdM : Int64) (sz : Nat) (M : dk_O) (v1 : Int32) (r : Int32) (oM_I : (Nat → Int32)) (oM_17 : (Nat → Int32)) (oM_sd : Int64) (hf : fX6_drawn sdM M v1 = some (r, oM_I, oM_17, oM_sd)) : dk_MuI l yX6_drawn wsX6_drawn ({ frames := 3, cells := 0, slots := 0, locals := 69 }) D cy [.ref hM, .int v1] (wMd cy hM aM sdM M) (wMd cy hM aM oM_sd (oM_I, dk_upA M.2 17 oM_17)) sz r := by
  refine Met.ofW (cc := cX6_drawn) (maxL := 5) (ret := (some .int)) (by decide) rfl ?_
  intro p e s m args below meth c s₁ B hml hv
  obtain ⟨rfl, hsz, hP, hK, hD0⟩ := hv
  have hx := B.exec
  have hb := B.bytes
  have hr := B.returns
  have hts := atoms_spec (ws := wsX6_drawn) B.pre
  have hown : s.vm.findClass RX6 = some m.cls := findClass_of_methodNamed B.named
  have hlocks := B.notSynchronized
  subst hsz
  have hD := hD0.self (sz := s.heap.size)
  generalize hAe : va_A (wMd cy hM aM sdM M) s.heap.size = A at hD ⊢
  have hA : ∀ q : Nat, s.heap.size ≤ q → A q := fun q h => by rw [← hAe]; exact Or.inr h
  have hS : va_S A s.heap s.heap [] := va_S.rf
  have hl := lv_entry ([.ref hM, .int v1]) (n := 5) (Nat.le_of_ble_eq_true rfl)
  rw [lg_entry_eq]
  generalize (lg_sl ([.ref hM, .int v1]) ++ List.replicate (5 - (lg_sl ([.ref hM, .int v1])).length) Slot.unset).toArray = ls at hl ⊢
  have hl : lv_has ls 5 [(0, .ref hM), (1, .int v1)] := hl
  have L35 : ∀ (fu35 : Nat) (x1 : Int32) (x2 : Int32) (x3 : Int32) (M_I : (Nat → Int32)) (M_17 : (Nat → Int32)) (M_sd : Int64) (H : Heap) (locs : List Loc) (ls : Array Slot), va_P D vwCl (wMd cy hM aM M_sd (M_I, dk_upA M.2 17 M_17)) H → va_D A (wMd cy hM aM M_sd (M_I, dk_upA M.2 17 M_17)) → va_S A s.heap H locs → lv_has ls 5 [(0, .ref hM), (1, .int x1), (2, .int x2), (3, .int x3)] → fX6_drawn_L35 sdM M fu35 x1 x2 x3 M_I M_17 M_sd = some (r, oM_I, oM_17, oM_sd) → W p l e (headSpec wsX6_drawn ({ frames := 3, cells := 0, slots := 0, locals := 69 })).room s m ([.ref hM, .int v1]).toArray below meth c H locs 0 0 (MQ below (va_Qi (fun (x : Int32) (_ : Unit) => x = r) (dk_B D (wMd cy hM aM oM_sd (oM_I, dk_upA M.2 17 oM_17)) A) A) ([.ref hM, .int v1]).toArray s 0 0 A) (F0 m 35 ls []) := by
    intro fu35
    induction fu35 with
    | zero =>
      intro x1 x2 x3 M_I M_17 M_sd H locs ls hP hD hS hl hf
      rw [fX6_drawn_L35] at hf
      cases hf
    | succ fu35 ih35 =>
      intro x1 x2 x3 M_I M_17 M_sd H locs ls hP hD hS hl hf
      rw [fX6_drawn_L35] at hf
      have L107 : ∀ (x1 : Int32) (x2 : Int32) (x3 : Int32) (M_I : (Nat → Int32)) (M_17 : (Nat → Int32)) (M_sd : Int64) (H : Heap) (locs : List Loc) (ls : Array Slot), va_P D vwCl (wMd cy hM aM M_sd (M_I, dk_upA M.2 17 M_17)) H → va_D A (wMd cy hM aM M_sd (M_I, dk_upA M.2 17 M_17)) → va_S A s.heap H locs → lv_has ls 5 [(0, .ref hM), (1, .int x1), (2, .int x2), (3, .int x3)] → fX6_drawn_L107 sdM M (fun z0 z1 z2 z3 z4 z5 => fX6_drawn_L35 sdM M fu35 z0 z1 z2 z3 z4 z5) x1 x2 x3 M_I M_17 M_sd = some (r, oM_I, oM_17, oM_sd) → W p l e (headSpec wsX6_drawn ({ frames := 3, cells := 0, slots := 0, locals := 69 })).room s m ([.ref hM, .int v1]).toArray below meth c H locs 0 0 (MQ below (va_Qi (fun (x : Int32) (_ : Unit) => x = r) (dk_B D (wMd cy hM aM oM_sd (oM_I, dk_upA M.2 17 oM_17)) A) A) ([.ref hM, .int v1]).toArray s 0 0 A) (F0 m 107 ls []) := by
        intro x1 x2 x3 M_I M_17 M_sd H locs ls hP hD hS hl hf
        unfold fX6_drawn_L107 at hf
        refine lv_iload_n hx hb dX6_drawn_107 rfl (lv_at hl 2 rfl) ?_
        refine lv_aload_n hx hb dX6_drawn_108 rfl (lv_at hl 0 rfl) ?_
        refine va_get (D := D) (ci := 6) (v := .ref (aM 17)) (C := RX6) (T := TX6) (N := 28) hx hb hts iX6_drawn_X6 hown hK.1 hP 0 rfl rfl 17 (by decide) (hts (.fieldLink RX6 32 "DarkPlaceModel" "trial" "[I") (List.mem_of_getElem? (i := 4) rfl)) (fun _ h9 => h9) rfl dX6_drawn_109 ?_
        obtain ⟨r112, k112, hf⟩ := dk_bind hf
        refine dk_ri (va_runS (As := [.ref (aM 17)]) (rest := [.int x2]) ⟨hx, hb, hml, hown, hts⟩ (kX6_living l D cy (aM 17) M_17 r112 k112) (va_cwS 1 hts gX6_drawn_X6_living rfl rfl rfl (by decide +kernel) ⟨Nat.le_of_ble_eq_true rfl, Nat.le_of_ble_eq_true rfl⟩) (dk_preS hK (hP.sub (ws' := wRw cy (aM 17) 21 M_17) [5] rfl)) rfl rfl hl.1 rfl (lv_room (Nat.le_of_ble_eq_true rfl)) dX6_drawn_112 ⟨Nat.zero_le _, Nat.zero_le _⟩) ?_
        refine lv_iadd hx hb dX6_drawn_115 ?_
        refine lv_istore_n (lv' := [(2, .int (x2 + r112)), (0, .ref hM), (1, .int x1), (3, .int x3)]) hx hb dX6_drawn_116 rfl hl (by decide) rfl (fun ls hl => ?_)
        refine lv_iinc (v := x3 + 1) (lv' := [(3, .int (x3 + 1)), (2, .int (x2 + r112)), (0, .ref hM), (1, .int x1)]) hx hb dX6_drawn_117 hl (k := 3) rfl rfl (by decide) rfl (fun ls hl => ?_)
        refine lv_goto (tgt := 35) hx hb dX6_drawn_120 (by decide) ?_
        exact ih35 x1 (x2 + r112) (x3 + 1) M_I M_17 M_sd _ _ _ hP hD hS (lv_sub hl [2, 3, 1, 0] rfl) hf
      refine lv_iload_n hx hb dX6_drawn_35 rfl (lv_at hl 3 rfl) ?_
      refine lv_iload_n hx hb dX6_drawn_36 rfl (lv_at hl 1 rfl) ?_
      refine dk_cge (tgt := 123) hx hb dX6_drawn_37 (by decide) hf (fun hf => ?_) (fun hf => ?_)
      · refine lv_iload_n hx hb dX6_drawn_123 rfl (lv_at hl 2 rfl) ?_
        have e := Option.some.inj hf
        simp only [Prod.mk.injEq] at e
        obtain ⟨e0, e1, e2, e3⟩ := e
        subst e1
        subst e2
        subst e3
        exact W.iret (v := x2) hx hb hr (fun t ht hW => ⟨⟨x2, (), rfl, e0, by rw [ht]; exact hP, hD⟩, hS.F ht⟩) hS.2.2 dX6_drawn_124
      · refine lv_aload_n hx hb dX6_drawn_40 rfl (lv_at hl 0 rfl) ?_
        refine lv_aload_n hx hb dX6_drawn_41 rfl (lv_at hl 0 rfl) ?_
        refine va_get (D := D) (ci := 6) (v := .long M_sd) (C := RX6) (T := TX6) (N := 28) hx hb hts iX6_drawn_X6 hown hK.1 hP 0 rfl rfl 25 (by decide) (hts (.fieldLink RX6 243 "DarkPlaceModel" "seed" "J") (List.mem_of_getElem? (i := 5) rfl)) (fun _ h9 => h9) rfl dX6_drawn_42 ?_
        refine lv_ldc2 hx hb hown (hts (.constantLong RX6 249 (6364136223846793005)) (List.mem_of_getElem? (i := 6) rfl)) dX6_drawn_45 ?_
        refine lv_lmul hx hb dX6_drawn_48 ?_
        refine lv_ldc2 hx hb hown (hts (.constantLong RX6 251 (1442695040888963407)) (List.mem_of_getElem? (i := 7) rfl)) dX6_drawn_49 ?_
        refine lv_ladd hx hb dX6_drawn_52 ?_
        refine va_put (D := D) (ci := 6) (v := .long ((M_sd * 6364136223846793005) + 1442695040888963407)) (ty := .long) (C := RX6) (T := TX6) (N := 28) hx hb hts iX6_drawn_X6 tyX6 tyX6_ok nmX6 hown hK.1 hP hD hS 0 rfl rfl 25 (by decide) (hts (.fieldLink RX6 243 "DarkPlaceModel" "seed" "J") (List.mem_of_getElem? (i := 5) rfl)) (fun _ h9 => h9) rfl (by decide +kernel) rfl rfl (Nat.le_of_ble_eq_true rfl) dX6_drawn_53 (fun H locs hP hD hS => ?_)
        have hP : va_P D vwCl (wMd cy hM aM ((M_sd * 6364136223846793005) + 1442695040888963407) (M_I, dk_upA M.2 17 M_17)) H := hP
        have hD : va_D A (wMd cy hM aM ((M_sd * 6364136223846793005) + 1442695040888963407) (M_I, dk_upA M.2 17 M_17)) := hD
        refine lv_aload_n hx hb dX6_drawn_56 rfl (lv_at hl 0 rfl) ?_
        refine va_get (D := D) (ci := 6) (v := .long ((M_sd * 6364136223846793005) + 1442695040888963407)) (C := RX6) (T := TX6) (N := 28) hx hb hts iX6_drawn_X6 hown hK.1 hP 0 rfl rfl 25 (by decide) (hts (.fieldLink RX6 243 "DarkPlaceModel" "seed" "J") (List.mem_of_getElem? (i := 5) rfl)) (fun _ h9 => h9) rfl dX6_drawn_57 ?_
        refine lv_bipush (v := 33) hx hb dX6_drawn_60 (by decide) ?_
        refine lv_lushr hx hb dX6_drawn_62 rfl ?_
        refine lv_l2i hx hb dX6_drawn_63 rfl ?_
        refine lv_istore (lv' := [(4, .int (((((M_sd * 6364136223846793005) + 1442695040888963407).toUInt64 >>> ((33 : Int32).toInt64.toUInt64 &&& Int64.toUInt64 63)).toInt64).toInt32)), (0, .ref hM), (1, .int x1), (2, .int x2), (3, .int x3)]) hx hb dX6_drawn_64 hl (by decide) rfl (fun ls hl => ?_)
        refine lv_aload_n hx hb dX6_drawn_66 rfl (lv_at hl 1 rfl) ?_
        refine lv_aload_n hx hb dX6_drawn_67 rfl (lv_at hl 1 rfl) ?_
        refine va_get (D := D) (ci := 6) (v := .ref (aM 17)) (C := RX6) (T := TX6) (N := 28) hx hb hts iX6_drawn_X6 hown hK.1 hP 0 rfl rfl 17 (by decide) (hts (.fieldLink RX6 32 "DarkPlaceModel" "trial" "[I") (List.mem_of_getElem? (i := 4) rfl)) (fun _ h9 => h9) rfl dX6_drawn_68 ?_
        refine lv_iload hx hb dX6_drawn_71 (lv_at hl 0 rfl) ?_
        refine lv_iconst (v := 4) hx hb dX6_drawn_73 (by decide) ?_
        refine lv_irem hx hb dX6_drawn_74 (by decide) ?_
        refine lv_iload hx hb dX6_drawn_75 (lv_at hl 0 rfl) ?_
        refine lv_iconst (v := 4) hx hb dX6_drawn_77 (by decide) ?_
        refine lv_idiv hx hb dX6_drawn_78 (by decide) ?_
        refine lv_bipush (v := 10) hx hb dX6_drawn_79 (by decide) ?_
        refine lv_irem hx hb dX6_drawn_81 (by decide) ?_
        obtain ⟨r82, k82, hf⟩ := dk_bind hf
        refine dk_ri (va_runV (As := [.ref (aM 17), .int ((((((M_sd * 6364136223846793005) + 1442695040888963407).toUInt64 >>> ((33 : Int32).toInt64.toUInt64 &&& Int64.toUInt64 63)).toInt64).toInt32) - (((((M_sd * 6364136223846793005) + 1442695040888963407).toUInt64 >>> ((33 : Int32).toInt64.toUInt64 &&& Int64.toUInt64 63)).toInt64).toInt32) / 4 * 4), .int (((((((M_sd * 6364136223846793005) + 1442695040888963407).toUInt64 >>> ((33 : Int32).toInt64.toUInt64 &&& Int64.toUInt64 63)).toInt64).toInt32) / 4) - ((((((M_sd * 6364136223846793005) + 1442695040888963407).toUInt64 >>> ((33 : Int32).toInt64.toUInt64 &&& Int64.toUInt64 63)).toInt64).toInt32) / 4) / 10 * 10)]) (rest := []) ⟨hx, hb, hml, hown, hts⟩ (kX6_canStep l D cy hM aM ((M_sd * 6364136223846793005) + 1442695040888963407) (aM 17) (M_I, dk_upA M.2 17 M_17) M_17 ((((((M_sd * 6364136223846793005) + 1442695040888963407).toUInt64 >>> ((33 : Int32).toInt64.toUInt64 &&& Int64.toUInt64 63)).toInt64).toInt32) - (((((M_sd * 6364136223846793005) + 1442695040888963407).toUInt64 >>> ((33 : Int32).toInt64.toUInt64 &&& Int64.toUInt64 63)).toInt64).toInt32) / 4 * 4) (((((((M_sd * 6364136223846793005) + 1442695040888963407).toUInt64 >>> ((33 : Int32).toInt64.toUInt64 &&& Int64.toUInt64 63)).toInt64).toInt32) / 4) - ((((((M_sd * 6364136223846793005) + 1442695040888963407).toUInt64 >>> ((33 : Int32).toInt64.toUInt64 &&& Int64.toUInt64 63)).toInt64).toInt32) / 4) / 10 * 10) r82 k82) (cwV 3 hts gX6_drawn_X6_canStep rfl rfl rfl (by decide +kernel) ⟨Nat.le_of_ble_eq_true rfl, Nat.le_of_ble_eq_true rfl⟩) (dk_preV hK (hP.sub (ws' := wMs cy hM aM ((M_sd * 6364136223846793005) + 1442695040888963407) (M_I, dk_upA M.2 17 M_17) ++ wRw cy (aM 17) 21 M_17) [0, 1, 2, 3, 5] rfl) (ci := 6) (q0 := 0) rfl rfl) rfl rfl hl.1 rfl (lv_room (Nat.le_of_ble_eq_true rfl)) dX6_drawn_82 ⟨Nat.zero_le _, Nat.zero_le _⟩) ?_
        refine dk_ieq (tgt := 107) hx hb dX6_drawn_85 (by decide) hf (fun hf => ?_) (fun hf => ?_)
        · exact L107 x1 x2 x3 M_I M_17 ((M_sd * 6364136223846793005) + 1442695040888963407) _ _ _ hP hD hS (lv_sub hl [1, 2, 3, 4] rfl) hf
        · refine lv_aload_n hx hb dX6_drawn_88 rfl (lv_at hl 1 rfl) ?_
          refine lv_aload_n hx hb dX6_drawn_89 rfl (lv_at hl 1 rfl) ?_
          refine va_get (D := D) (ci := 6) (v := .ref (aM 17)) (C := RX6) (T := TX6) (N := 28) hx hb hts iX6_drawn_X6 hown hK.1 hP 0 rfl rfl 17 (by decide) (hts (.fieldLink RX6 32 "DarkPlaceModel" "trial" "[I") (List.mem_of_getElem? (i := 4) rfl)) (fun _ h9 => h9) rfl dX6_drawn_90 ?_
          refine lv_iload hx hb dX6_drawn_93 (lv_at hl 0 rfl) ?_
          refine lv_iconst (v := 4) hx hb dX6_drawn_95 (by decide) ?_
          refine lv_irem hx hb dX6_drawn_96 (by decide) ?_
          refine lv_iload hx hb dX6_drawn_97 (lv_at hl 0 rfl) ?_
          refine lv_iconst (v := 4) hx hb dX6_drawn_99 (by decide) ?_
          refine lv_idiv hx hb dX6_drawn_100 (by decide) ?_
          refine lv_bipush (v := 10) hx hb dX6_drawn_101 (by decide) ?_
          refine lv_irem hx hb dX6_drawn_103 (by decide) ?_
          obtain ⟨g104_0, k104, hf⟩ := dk_bind hf
          have hPc := hP.sub (ws' := wMs cy hM aM ((M_sd * 6364136223846793005) + 1442695040888963407) (M_I, dk_upA M.2 17 M_17) ++ wRw cy (aM 17) 21 M_17) [0, 1, 2, 3, 5] rfl
          have hDc := hD.sub (ws' := wMs cy hM aM ((M_sd * 6364136223846793005) + 1442695040888963407) (M_I, dk_upA M.2 17 M_17) ++ wRw cy (aM 17) 21 M_17) [0, 1, 2, 3, 5] (by decide) rfl
          have hFc := va_free (wc := wMs cy hM aM ((M_sd * 6364136223846793005) + 1442695040888963407) (M_I, dk_upA M.2 17 M_17) ++ wRw cy (aM 17) 21 M_17) hD hS hA [0, 1, 2, 3, 5] rfl
          refine va_callv (va_runV (As := [.ref (aM 17), .int ((((((M_sd * 6364136223846793005) + 1442695040888963407).toUInt64 >>> ((33 : Int32).toInt64.toUInt64 &&& Int64.toUInt64 63)).toInt64).toInt32) - (((((M_sd * 6364136223846793005) + 1442695040888963407).toUInt64 >>> ((33 : Int32).toInt64.toUInt64 &&& Int64.toUInt64 63)).toInt64).toInt32) / 4 * 4), .int (((((((M_sd * 6364136223846793005) + 1442695040888963407).toUInt64 >>> ((33 : Int32).toInt64.toUInt64 &&& Int64.toUInt64 63)).toInt64).toInt32) / 4) - ((((((M_sd * 6364136223846793005) + 1442695040888963407).toUInt64 >>> ((33 : Int32).toInt64.toUInt64 &&& Int64.toUInt64 63)).toInt64).toInt32) / 4) / 10 * 10)]) (rest := []) ⟨hx, hb, hml, hown, hts⟩ (kX6_stepOn l D cy hM aM ((M_sd * 6364136223846793005) + 1442695040888963407) (aM 17) H.size (M_I, dk_upA M.2 17 M_17) M_17 ((((((M_sd * 6364136223846793005) + 1442695040888963407).toUInt64 >>> ((33 : Int32).toInt64.toUInt64 &&& Int64.toUInt64 63)).toInt64).toInt32) - (((((M_sd * 6364136223846793005) + 1442695040888963407).toUInt64 >>> ((33 : Int32).toInt64.toUInt64 &&& Int64.toUInt64 63)).toInt64).toInt32) / 4 * 4) (((((((M_sd * 6364136223846793005) + 1442695040888963407).toUInt64 >>> ((33 : Int32).toInt64.toUInt64 &&& Int64.toUInt64 63)).toInt64).toInt32) / 4) - ((((((M_sd * 6364136223846793005) + 1442695040888963407).toUInt64 >>> ((33 : Int32).toInt64.toUInt64 &&& Int64.toUInt64 63)).toInt64).toInt32) / 4) / 10 * 10) g104_0 k104) (cwV 3 hts gX6_drawn_X6_stepOn rfl rfl rfl (by decide +kernel) ⟨Nat.le_of_ble_eq_true rfl, Nat.le_of_ble_eq_true rfl⟩) (dk_premV hK hPc hDc (ci := 6) (q0 := 0) rfl rfl) rfl rfl hl.1 rfl (lv_room (Nat.le_of_ble_eq_true rfl)) dX6_drawn_104 ⟨Nat.zero_le _, Nat.zero_le _⟩) hS (fun q _ h => hFc q h) hFc (fun u t H1 locs ht hvm hw hB hz1 hk1 hS => ?_)
          obtain ⟨hP1, hD1⟩ := hB
          rw [ht] at hP1
          obtain ⟨hP, hD⟩ := va_join (wr := ([4, 6, 7, 8, 9, 10, 11, 12, 13] : List Nat).filterMap (fun i => (wMd cy hM aM ((M_sd * 6364136223846793005) + 1442695040888963407) (M_I, dk_upA M.2 17 M_17))[i]?)) (w1 := wMs cy hM aM ((M_sd * 6364136223846793005) + 1442695040888963407) (M_I, dk_upA M.2 17 g104_0) ++ wRw cy (aM 17) 21 g104_0) hP hD [0, 1, 2, 3, 5] [4, 6, 7, 8, 9, 10, 11, 12, 13] rfl rfl (by decide) (by decide) hk1 hFc hP1 hD1
          generalize H1 = H at hP hS ⊢
          have hP : va_P D vwCl (wMd cy hM aM ((M_sd * 6364136223846793005) + 1442695040888963407) (M_I, dk_upA M.2 17 g104_0)) H := hP.sub [9, 10, 11, 12, 0, 13, 1, 2, 3, 4, 5, 6, 7, 8] rfl
          have hD : va_D A (wMd cy hM aM ((M_sd * 6364136223846793005) + 1442695040888963407) (M_I, dk_upA M.2 17 g104_0)) := hD.sub [9, 10, 11, 12, 0, 13, 1, 2, 3, 4, 5, 6, 7, 8] (by decide) rfl
          exact L107 x1 x2 x3 M_I g104_0 ((M_sd * 6364136223846793005) + 1442695040888963407) _ _ _ hP hD hS (lv_sub hl [1, 2, 3, 4] rfl) hf
  unfold fX6_drawn at hf
  refine lv_aload_n hx hb dX6_drawn_0 rfl (lv_at hl 0 rfl) ?_
  refine lv_iconst (v := 0) hx hb dX6_drawn_1 (by decide) ?_
  refine va_put (D := D) (ci := 6) (v := .int 0) (ty := .int) (C := RX6) (T := TX6) (N := 28) hx hb hts iX6_drawn_X6 tyX6 tyX6_ok nmX6 hown hK.1 hP hD hS 0 rfl rfl 0 (by decide) (hts (.fieldLink RX6 61 "DarkPlaceModel" "thrown" "I") (List.mem_of_getElem? (i := 1) rfl)) (fun _ h9 => h9) rfl (by decide +kernel) rfl rfl (Nat.le_of_ble_eq_true rfl) dX6_drawn_2 (fun H locs hP hD hS => ?_)
  have hP : va_P D vwCl (wMd cy hM aM sdM (upd M.1 0 0, M.2)) H := hP
  have hD : va_D A (wMd cy hM aM sdM (upd M.1 0 0, M.2)) := hD
  refine lv_iload_n hx hb dX6_drawn_5 rfl (lv_at hl 1 rfl) ?_
  refine lv_i2l hx hb dX6_drawn_6 rfl ?_
  refine lv_lconst (v := 1) hx hb dX6_drawn_7 (by decide) ?_
  refine lv_ldc2 hx hb hown (hts (.constantLong RX6 247 (60)) (List.mem_of_getElem? (i := 2) rfl)) dX6_drawn_8 ?_
  obtain ⟨r11, k11, hf⟩ := dk_bind hf
  refine dk_ri (va_runS (As := [.long v1.toInt64, .long 1, .long 60]) (rest := []) ⟨hx, hb, hml, hown, hts⟩ (kX6_in l D cy v1.toInt64 1 60 r11 k11) (va_cwS 3 hts gX6_drawn_X6_in rfl rfl rfl (by decide +kernel) ⟨Nat.le_of_ble_eq_true rfl, Nat.le_of_ble_eq_true rfl⟩) (dk_preS hK (hP.sub (ws' := []) [] rfl)) rfl rfl hl.1 rfl (lv_room (Nat.le_of_ble_eq_true rfl)) dX6_drawn_11 ⟨Nat.zero_le _, Nat.zero_le _⟩) ?_
  refine dk_ine (tgt := 20) hx hb dX6_drawn_14 (by decide) hf (fun hf => ?_) (fun hf => ?_)
  · refine lv_aload_n hx hb dX6_drawn_20 rfl (lv_at hl 0 rfl) ?_
    refine va_get (D := D) (ci := 6) (v := .ref (aM 16)) (C := RX6) (T := TX6) (N := 28) hx hb hts iX6_drawn_X6 hown hK.1 hP 0 rfl rfl 16 (by decide) (hts (.fieldLink RX6 29 "DarkPlaceModel" "page" "[I") (List.mem_of_getElem? (i := 3) rfl)) (fun _ h9 => h9) rfl dX6_drawn_21 ?_
    refine lv_aload_n hx hb dX6_drawn_24 rfl (lv_at hl 0 rfl) ?_
    refine va_get (D := D) (ci := 6) (v := .ref (aM 17)) (C := RX6) (T := TX6) (N := 28) hx hb hts iX6_drawn_X6 hown hK.1 hP 0 rfl rfl 17 (by decide) (hts (.fieldLink RX6 32 "DarkPlaceModel" "trial" "[I") (List.mem_of_getElem? (i := 4) rfl)) (fun _ h9 => h9) rfl dX6_drawn_25 ?_
    obtain ⟨g28_0, k28, hf⟩ := dk_bind hf
    have hPc := hP.sub (ws' := wRw cy (aM 16) 21 (M.2 16) ++ wRw cy (aM 17) 21 (M.2 17)) [4, 5] rfl
    have hDc := hD.sub (ws' := wRw cy (aM 16) 21 (M.2 16) ++ wRw cy (aM 17) 21 (M.2 17)) [4, 5] (by decide) rfl
    have hFc := va_free (wc := wRw cy (aM 16) 21 (M.2 16) ++ wRw cy (aM 17) 21 (M.2 17)) hD hS hA [4, 5] rfl
    refine va_callv (va_runS (As := [.ref (aM 16), .ref (aM 17)]) (rest := []) ⟨hx, hb, hml, hown, hts⟩ (kX6_lay l D cy (aM 16) (aM 17) H.size (M.2 16) (M.2 17) g28_0 k28) (va_cwS 2 hts gX6_drawn_X6_lay rfl rfl rfl (by decide +kernel) ⟨Nat.le_of_ble_eq_true rfl, Nat.le_of_ble_eq_true rfl⟩) (dk_premS hK hPc hDc) rfl rfl hl.1 rfl (lv_room (Nat.le_of_ble_eq_true rfl)) dX6_drawn_28 ⟨Nat.zero_le _, Nat.zero_le _⟩) hS (fun q _ h => hFc q h) hFc (fun u t H1 locs ht hvm hw hB hz1 hk1 hS => ?_)
    obtain ⟨hP1, hD1⟩ := hB
    rw [ht] at hP1
    obtain ⟨hP, hD⟩ := va_join (wr := ([0, 1, 2, 3, 6, 7, 8, 9, 10, 11, 12, 13] : List Nat).filterMap (fun i => (wMd cy hM aM sdM (upd M.1 0 0, M.2))[i]?)) (w1 := wRw cy (aM 16) 21 (M.2 16) ++ wRw cy (aM 17) 21 g28_0) hP hD [4, 5] [0, 1, 2, 3, 6, 7, 8, 9, 10, 11, 12, 13] rfl rfl (by decide) (by decide) hk1 hFc hP1 hD1
    generalize H1 = H at hP hS ⊢
    have hP : va_P D vwCl (wMd cy hM aM sdM (upd M.1 0 0, dk_upA M.2 17 g28_0)) H := hP.sub [0, 1, 2, 3, 12, 13, 4, 5, 6, 7, 8, 9, 10, 11] rfl
    have hD : va_D A (wMd cy hM aM sdM (upd M.1 0 0, dk_upA M.2 17 g28_0)) := hD.sub [0, 1, 2, 3, 12, 13, 4, 5, 6, 7, 8, 9, 10, 11] (by decide) rfl
    refine lv_iconst (v := 0) hx hb dX6_drawn_31 (by decide) ?_
    refine lv_istore_n (lv' := [(2, .int 0), (0, .ref hM), (1, .int v1)]) hx hb dX6_drawn_32 rfl hl (by decide) rfl (fun ls hl => ?_)
    refine lv_iconst (v := 0) hx hb dX6_drawn_33 (by decide) ?_
    refine lv_istore_n (lv' := [(3, .int 0), (2, .int 0), (0, .ref hM), (1, .int v1)]) hx hb dX6_drawn_34 rfl hl (by decide) rfl (fun ls hl => ?_)
    exact L35 1000 v1 0 0 (upd M.1 0 0) g28_0 sdM _ _ _ hP hD hS (lv_sub hl [2, 3, 1, 0] rfl) hf
  · refine lv_bipush (v := (-2)) hx hb dX6_drawn_17 (by decide) ?_
    have e := Option.some.inj hf
    simp only [Prod.mk.injEq] at e
    obtain ⟨e0, e1, e2, e3⟩ := e
    subst e1
    subst e2
    subst e3
    exact W.iret (v := (-2)) hx hb hr (fun t ht hW => ⟨⟨(-2), (), rfl, e0, by rw [ht]; exact hP, hD⟩, hS.F ht⟩) hS.2.2 dX6_drawn_19
theorem iX6_keep_X6 : ∀ w ∈ wsX60, w ∈ wsX6_keep := fun _ h => List.mem_cons_of_mem _ (List.mem_append_right _ h)
set_option maxHeartbeats 4000000 in
set_option maxRecDepth 100000 in
theorem kX6_keep (l : Launch) (D : va_G) (cy : Nat → ClassId) (hM : Nat) (aM : Nat → Nat) (sdM : Int64) (sz : Nat) (M : dk_O) (v1 : Int32) (r : Int32) (oM_I : (Nat → Int32)) (oM_20 : (Nat → Int32)) (oM_21 : (Nat → Int32)) (hf : fX6_keep M v1 = some (r, oM_I, oM_20, oM_21)) : dk_MuI l yX6_keep wsX6_keep ({ frames := 1, cells := 0, slots := 0, locals := 25 }) D cy [.ref hM, .int v1] (wMd cy hM aM sdM M) (wMd cy hM aM sdM (oM_I, dk_upA (dk_upA M.2 20 oM_20) 21 oM_21)) sz r := by
  refine Met.ofW (cc := cX6_keep) (maxL := 3) (ret := (some .int)) (by decide) rfl ?_
  intro p e s m args below meth c s₁ B hml hv
  obtain ⟨rfl, hsz, hP, hK, hD0⟩ := hv
  have hx := B.exec
  have hb := B.bytes
  have hr := B.returns
  have hts := atoms_spec (ws := wsX6_keep) B.pre
  have hown : s.vm.findClass RX6 = some m.cls := findClass_of_methodNamed B.named
  have hlocks := B.notSynchronized
  subst hsz
  have hD := hD0.self (sz := s.heap.size)
  generalize hAe : va_A (wMd cy hM aM sdM M) s.heap.size = A at hD ⊢
  have hA : ∀ q : Nat, s.heap.size ≤ q → A q := fun q h => by rw [← hAe]; exact Or.inr h
  have hS : va_S A s.heap s.heap [] := va_S.rf
  have hl := lv_entry ([.ref hM, .int v1]) (n := 3) (Nat.le_of_ble_eq_true rfl)
  rw [lg_entry_eq]
  generalize (lg_sl ([.ref hM, .int v1]) ++ List.replicate (3 - (lg_sl ([.ref hM, .int v1])).length) Slot.unset).toArray = ls at hl ⊢
  have hl : lv_has ls 3 [(0, .ref hM), (1, .int v1)] := hl
  have L26 : ∀ (fu26 : Nat) (x1 : Int32) (x2 : Int32) (M_I : (Nat → Int32)) (M_20 : (Nat → Int32)) (M_21 : (Nat → Int32)) (H : Heap) (locs : List Loc) (ls : Array Slot), va_P D vwCl (wMd cy hM aM sdM (M_I, dk_upA (dk_upA M.2 20 M_20) 21 M_21)) H → va_D A (wMd cy hM aM sdM (M_I, dk_upA (dk_upA M.2 20 M_20) 21 M_21)) → va_S A s.heap H locs → lv_has ls 3 [(0, .ref hM), (1, .int x1), (2, .int x2)] → fX6_keep_L26 M fu26 x1 x2 M_I M_20 M_21 = some (r, oM_I, oM_20, oM_21) → W p l e (headSpec wsX6_keep ({ frames := 1, cells := 0, slots := 0, locals := 25 })).room s m ([.ref hM, .int v1]).toArray below meth c H locs 0 0 (MQ below (va_Qi (fun (x : Int32) (_ : Unit) => x = r) (dk_B D (wMd cy hM aM sdM (oM_I, dk_upA (dk_upA M.2 20 oM_20) 21 oM_21)) A) A) ([.ref hM, .int v1]).toArray s 0 0 A) (F0 m 26 ls []) := by
    intro fu26
    induction fu26 with
    | zero =>
      intro x1 x2 M_I M_20 M_21 H locs ls hP hD hS hl hf
      rw [fX6_keep_L26] at hf
      cases hf
    | succ fu26 ih26 =>
      intro x1 x2 M_I M_20 M_21 H locs ls hP hD hS hl hf
      rw [fX6_keep_L26] at hf
      refine lv_iload_n hx hb dX6_keep_26 rfl (lv_at hl 2 rfl) ?_
      refine lv_bipush (v := 21) hx hb dX6_keep_27 (by decide) ?_
      refine dk_cge (tgt := 55) hx hb dX6_keep_29 (by decide) hf (fun hf => ?_) (fun hf => ?_)
      · refine lv_aload_n hx hb dX6_keep_55 rfl (lv_at hl 0 rfl) ?_
        refine va_get (D := D) (ci := 6) (v := .ref (aM 16)) (C := RX6) (T := TX6) (N := 28) hx hb hts iX6_keep_X6 hown hK.1 hP 0 rfl rfl 16 (by decide) (hts (.fieldLink RX6 29 "DarkPlaceModel" "page" "[I") (List.mem_of_getElem? (i := 4) rfl)) (fun _ h9 => h9) rfl dX6_keep_56 ?_
        refine lv_iconst (v := 2) hx hb dX6_keep_59 (by decide) ?_
        refine dk_iald hx hb hK.1 hP 4 0 rfl rfl hf dX6_keep_60 (fun d60 hf => ?_)
        have e := Option.some.inj hf
        simp only [Prod.mk.injEq] at e
        obtain ⟨e0, e1, e2, e3⟩ := e
        subst e1
        subst e2
        subst e3
        exact W.iret (v := d60) hx hb hr (fun t ht hW => ⟨⟨d60, (), rfl, e0, by rw [ht]; exact hP, hD⟩, hS.F ht⟩) hS.2.2 dX6_keep_61
      · refine lv_aload_n hx hb dX6_keep_32 rfl (lv_at hl 0 rfl) ?_
        refine va_get (D := D) (ci := 6) (v := .ref (aM 20)) (C := RX6) (T := TX6) (N := 28) hx hb hts iX6_keep_X6 hown hK.1 hP 0 rfl rfl 20 (by decide) (hts (.fieldLink RX6 38 "DarkPlaceModel" "kept" "[I") (List.mem_of_getElem? (i := 3) rfl)) (fun _ h9 => h9) rfl dX6_keep_33 ?_
        refine lv_bipush (v := 21) hx hb dX6_keep_36 (by decide) ?_
        refine lv_iload_n hx hb dX6_keep_38 rfl (lv_at hl 1 rfl) ?_
        refine lv_imul hx hb dX6_keep_39 ?_
        refine lv_iload_n hx hb dX6_keep_40 rfl (lv_at hl 2 rfl) ?_
        refine lv_iadd hx hb dX6_keep_41 ?_
        refine lv_aload_n hx hb dX6_keep_42 rfl (lv_at hl 0 rfl) ?_
        refine va_get (D := D) (ci := 6) (v := .ref (aM 16)) (C := RX6) (T := TX6) (N := 28) hx hb hts iX6_keep_X6 hown hK.1 hP 0 rfl rfl 16 (by decide) (hts (.fieldLink RX6 29 "DarkPlaceModel" "page" "[I") (List.mem_of_getElem? (i := 4) rfl)) (fun _ h9 => h9) rfl dX6_keep_43 ?_
        refine lv_iload_n hx hb dX6_keep_46 rfl (lv_at hl 2 rfl) ?_
        refine dk_iald hx hb hK.1 hP 4 0 rfl rfl hf dX6_keep_47 (fun d47 hf => ?_)
        refine dk_iast hx hb hK.1 hP hD hS 10 0 rfl rfl hf dX6_keep_48 (fun f48 H locs hP hD hS hf => ?_)
        have hP : va_P D vwCl (wMd cy hM aM sdM (M_I, dk_upA (dk_upA M.2 20 f48) 21 M_21)) H := hP
        have hD : va_D A (wMd cy hM aM sdM (M_I, dk_upA (dk_upA M.2 20 f48) 21 M_21)) := hD
        refine lv_iinc (v := x2 + 1) (lv' := [(2, .int (x2 + 1)), (0, .ref hM), (1, .int x1)]) hx hb dX6_keep_49 hl (k := 2) rfl rfl (by decide) rfl (fun ls hl => ?_)
        refine lv_goto (tgt := 26) hx hb dX6_keep_52 (by decide) ?_
        exact ih26 x1 (x2 + 1) M_I f48 M_21 _ _ _ hP hD hS (lv_sub hl [1, 2, 0] rfl) hf
  unfold fX6_keep at hf
  refine lv_aload_n hx hb dX6_keep_0 rfl (lv_at hl 0 rfl) ?_
  refine lv_iconst (v := 0) hx hb dX6_keep_1 (by decide) ?_
  refine va_put (D := D) (ci := 6) (v := .int 0) (ty := .int) (C := RX6) (T := TX6) (N := 28) hx hb hts iX6_keep_X6 tyX6 tyX6_ok nmX6 hown hK.1 hP hD hS 0 rfl rfl 0 (by decide) (hts (.fieldLink RX6 61 "DarkPlaceModel" "thrown" "I") (List.mem_of_getElem? (i := 1) rfl)) (fun _ h9 => h9) rfl (by decide +kernel) rfl rfl (Nat.le_of_ble_eq_true rfl) dX6_keep_2 (fun H locs hP hD hS => ?_)
  have hP : va_P D vwCl (wMd cy hM aM sdM (upd M.1 0 0, M.2)) H := hP
  have hD : va_D A (wMd cy hM aM sdM (upd M.1 0 0, M.2)) := hD
  refine lv_iload_n hx hb dX6_keep_5 rfl (lv_at hl 1 rfl) ?_
  refine lv_i2l hx hb dX6_keep_6 rfl ?_
  refine lv_lconst (v := 0) hx hb dX6_keep_7 (by decide) ?_
  refine lv_lconst (v := 1) hx hb dX6_keep_8 (by decide) ?_
  obtain ⟨r9, k9, hf⟩ := dk_bind hf
  refine dk_ri (va_runS (As := [.long v1.toInt64, .long 0, .long 1]) (rest := []) ⟨hx, hb, hml, hown, hts⟩ (kX6_in l D cy v1.toInt64 0 1 r9 k9) (va_cwS 3 hts gX6_keep_X6_in rfl rfl rfl (by decide +kernel) ⟨Nat.le_of_ble_eq_true rfl, Nat.le_of_ble_eq_true rfl⟩) (dk_preS hK (hP.sub (ws' := []) [] rfl)) rfl rfl hl.1 rfl (lv_room (Nat.le_of_ble_eq_true rfl)) dX6_keep_9 ⟨Nat.zero_le _, Nat.zero_le _⟩) ?_
  refine dk_ine (tgt := 17) hx hb dX6_keep_12 (by decide) hf (fun hf => ?_) (fun hf => ?_)
  · refine lv_aload_n hx hb dX6_keep_17 rfl (lv_at hl 0 rfl) ?_
    refine va_get (D := D) (ci := 6) (v := .ref (aM 21)) (C := RX6) (T := TX6) (N := 28) hx hb hts iX6_keep_X6 hown hK.1 hP 0 rfl rfl 21 (by decide) (hts (.fieldLink RX6 41 "DarkPlaceModel" "isKept" "[Z") (List.mem_of_getElem? (i := 2) rfl)) (fun _ h9 => h9) rfl dX6_keep_18 ?_
    refine lv_iload_n hx hb dX6_keep_21 rfl (lv_at hl 1 rfl) ?_
    refine lv_iconst (v := 1) hx hb dX6_keep_22 (by decide) ?_
    refine dk_zast hx hb hK.1 hP hD hS 11 1 rfl rfl (by decide) hf dX6_keep_23 (fun f23 H locs hP hD hS hf => ?_)
    have hP : va_P D vwCl (wMd cy hM aM sdM (upd M.1 0 0, dk_upA M.2 21 f23)) H := hP
    have hD : va_D A (wMd cy hM aM sdM (upd M.1 0 0, dk_upA M.2 21 f23)) := hD
    refine lv_iconst (v := 0) hx hb dX6_keep_24 (by decide) ?_
    refine lv_istore_n (lv' := [(2, .int 0), (0, .ref hM), (1, .int v1)]) hx hb dX6_keep_25 rfl hl (by decide) rfl (fun ls hl => ?_)
    exact L26 1000 v1 0 (upd M.1 0 0) (M.2 20) f23 _ _ _ hP hD hS (lv_sub hl [1, 2, 0] rfl) hf
  · refine lv_iconst (v := (-1)) hx hb dX6_keep_15 (by decide) ?_
    have e := Option.some.inj hf
    simp only [Prod.mk.injEq] at e
    obtain ⟨e0, e1, e2, e3⟩ := e
    subst e1
    subst e2
    subst e3
    exact W.iret (v := (-1)) hx hb hr (fun t ht hW => ⟨⟨(-1), (), rfl, e0, by rw [ht]; exact hP, hD⟩, hS.F ht⟩) hS.2.2 dX6_keep_16
theorem iX6_again_X6 : ∀ w ∈ wsX60, w ∈ wsX6_again := fun _ h => List.mem_cons_of_mem _ (List.mem_append_right _ h)
set_option maxHeartbeats 4000000 in
set_option maxRecDepth 100000 in
theorem kX6_again (l : Launch) (D : va_G) (cy : Nat → ClassId) (hM : Nat) (aM : Nat → Nat) (sdM : Int64) (sz : Nat) (M : dk_O) (v1 : Int32) (r : Int32) (oM_I : (Nat → Int32)) (oM_16 : (Nat → Int32)) (hf : fX6_again M v1 = some (r, oM_I, oM_16)) : dk_MuI l yX6_again wsX6_again ({ frames := 1, cells := 0, slots := 0, locals := 25 }) D cy [.ref hM, .int v1] (wMd cy hM aM sdM M) (wMd cy hM aM sdM (oM_I, dk_upA M.2 16 oM_16)) sz r := by
  refine Met.ofW (cc := cX6_again) (maxL := 3) (ret := (some .int)) (by decide) rfl ?_
  intro p e s m args below meth c s₁ B hml hv
  obtain ⟨rfl, hsz, hP, hK, hD0⟩ := hv
  have hx := B.exec
  have hb := B.bytes
  have hr := B.returns
  have hts := atoms_spec (ws := wsX6_again) B.pre
  have hown : s.vm.findClass RX6 = some m.cls := findClass_of_methodNamed B.named
  have hlocks := B.notSynchronized
  subst hsz
  have hD := hD0.self (sz := s.heap.size)
  generalize hAe : va_A (wMd cy hM aM sdM M) s.heap.size = A at hD ⊢
  have hA : ∀ q : Nat, s.heap.size ≤ q → A q := fun q h => by rw [← hAe]; exact Or.inr h
  have hS : va_S A s.heap s.heap [] := va_S.rf
  have hl := lv_entry ([.ref hM, .int v1]) (n := 3) (Nat.le_of_ble_eq_true rfl)
  rw [lg_entry_eq]
  generalize (lg_sl ([.ref hM, .int v1]) ++ List.replicate (3 - (lg_sl ([.ref hM, .int v1])).length) Slot.unset).toArray = ls at hl ⊢
  have hl : lv_has ls 3 [(0, .ref hM), (1, .int v1)] := hl
  have L31 : ∀ (fu31 : Nat) (x1 : Int32) (x2 : Int32) (M_I : (Nat → Int32)) (M_16 : (Nat → Int32)) (H : Heap) (locs : List Loc) (ls : Array Slot), va_P D vwCl (wMd cy hM aM sdM (M_I, dk_upA M.2 16 M_16)) H → va_D A (wMd cy hM aM sdM (M_I, dk_upA M.2 16 M_16)) → va_S A s.heap H locs → lv_has ls 3 [(0, .ref hM), (1, .int x1), (2, .int x2)] → fX6_again_L31 M fu31 x1 x2 M_I M_16 = some (r, oM_I, oM_16) → W p l e (headSpec wsX6_again ({ frames := 1, cells := 0, slots := 0, locals := 25 })).room s m ([.ref hM, .int v1]).toArray below meth c H locs 0 0 (MQ below (va_Qi (fun (x : Int32) (_ : Unit) => x = r) (dk_B D (wMd cy hM aM sdM (oM_I, dk_upA M.2 16 oM_16)) A) A) ([.ref hM, .int v1]).toArray s 0 0 A) (F0 m 31 ls []) := by
    intro fu31
    induction fu31 with
    | zero =>
      intro x1 x2 M_I M_16 H locs ls hP hD hS hl hf
      rw [fX6_again_L31] at hf
      cases hf
    | succ fu31 ih31 =>
      intro x1 x2 M_I M_16 H locs ls hP hD hS hl hf
      rw [fX6_again_L31] at hf
      refine lv_iload_n hx hb dX6_again_31 rfl (lv_at hl 2 rfl) ?_
      refine lv_bipush (v := 21) hx hb dX6_again_32 (by decide) ?_
      refine dk_cge (tgt := 60) hx hb dX6_again_34 (by decide) hf (fun hf => ?_) (fun hf => ?_)
      · refine lv_aload_n hx hb dX6_again_60 rfl (lv_at hl 0 rfl) ?_
        refine lv_iconst (v := 0) hx hb dX6_again_61 (by decide) ?_
        refine va_put (D := D) (ci := 6) (v := .int 0) (ty := .int) (C := RX6) (T := TX6) (N := 28) hx hb hts iX6_again_X6 tyX6 tyX6_ok nmX6 hown hK.1 hP hD hS 0 rfl rfl 19 (by decide) (hts (.fieldLink RX6 163 "DarkPlaceModel" "doings" "I") (List.mem_of_getElem? (i := 5) rfl)) (fun _ h9 => h9) rfl (by decide +kernel) rfl rfl (Nat.le_of_ble_eq_true rfl) dX6_again_62 (fun H locs hP hD hS => ?_)
        have hP : va_P D vwCl (wMd cy hM aM sdM (upd M_I 19 0, dk_upA M.2 16 M_16)) H := hP
        have hD : va_D A (wMd cy hM aM sdM (upd M_I 19 0, dk_upA M.2 16 M_16)) := hD
        refine lv_aload_n hx hb dX6_again_65 rfl (lv_at hl 0 rfl) ?_
        refine va_get (D := D) (ci := 6) (v := .ref (aM 16)) (C := RX6) (T := TX6) (N := 28) hx hb hts iX6_again_X6 hown hK.1 hP 0 rfl rfl 16 (by decide) (hts (.fieldLink RX6 29 "DarkPlaceModel" "page" "[I") (List.mem_of_getElem? (i := 3) rfl)) (fun _ h9 => h9) rfl dX6_again_66 ?_
        refine lv_iconst (v := 2) hx hb dX6_again_69 (by decide) ?_
        refine dk_iald hx hb hK.1 hP 4 0 rfl rfl hf dX6_again_70 (fun d70 hf => ?_)
        have e := Option.some.inj hf
        simp only [Prod.mk.injEq] at e
        obtain ⟨e0, e1, e2⟩ := e
        subst e1
        subst e2
        exact W.iret (v := d70) hx hb hr (fun t ht hW => ⟨⟨d70, (), rfl, e0, by rw [ht]; exact hP, hD⟩, hS.F ht⟩) hS.2.2 dX6_again_71
      · refine lv_aload_n hx hb dX6_again_37 rfl (lv_at hl 0 rfl) ?_
        refine va_get (D := D) (ci := 6) (v := .ref (aM 16)) (C := RX6) (T := TX6) (N := 28) hx hb hts iX6_again_X6 hown hK.1 hP 0 rfl rfl 16 (by decide) (hts (.fieldLink RX6 29 "DarkPlaceModel" "page" "[I") (List.mem_of_getElem? (i := 3) rfl)) (fun _ h9 => h9) rfl dX6_again_38 ?_
        refine lv_iload_n hx hb dX6_again_41 rfl (lv_at hl 2 rfl) ?_
        refine lv_aload_n hx hb dX6_again_42 rfl (lv_at hl 0 rfl) ?_
        refine va_get (D := D) (ci := 6) (v := .ref (aM 20)) (C := RX6) (T := TX6) (N := 28) hx hb hts iX6_again_X6 hown hK.1 hP 0 rfl rfl 20 (by decide) (hts (.fieldLink RX6 38 "DarkPlaceModel" "kept" "[I") (List.mem_of_getElem? (i := 4) rfl)) (fun _ h9 => h9) rfl dX6_again_43 ?_
        refine lv_bipush (v := 21) hx hb dX6_again_46 (by decide) ?_
        refine lv_iload_n hx hb dX6_again_48 rfl (lv_at hl 1 rfl) ?_
        refine lv_imul hx hb dX6_again_49 ?_
        refine lv_iload_n hx hb dX6_again_50 rfl (lv_at hl 2 rfl) ?_
        refine lv_iadd hx hb dX6_again_51 ?_
        refine dk_iald hx hb hK.1 hP 10 0 rfl rfl hf dX6_again_52 (fun d52 hf => ?_)
        refine dk_iast hx hb hK.1 hP hD hS 4 0 rfl rfl hf dX6_again_53 (fun f53 H locs hP hD hS hf => ?_)
        have hP : va_P D vwCl (wMd cy hM aM sdM (M_I, dk_upA M.2 16 f53)) H := hP
        have hD : va_D A (wMd cy hM aM sdM (M_I, dk_upA M.2 16 f53)) := hD
        refine lv_iinc (v := x2 + 1) (lv' := [(2, .int (x2 + 1)), (0, .ref hM), (1, .int x1)]) hx hb dX6_again_54 hl (k := 2) rfl rfl (by decide) rfl (fun ls hl => ?_)
        refine lv_goto (tgt := 31) hx hb dX6_again_57 (by decide) ?_
        exact ih31 x1 (x2 + 1) M_I f53 _ _ _ hP hD hS (lv_sub hl [1, 2, 0] rfl) hf
  unfold fX6_again at hf
  refine lv_aload_n hx hb dX6_again_0 rfl (lv_at hl 0 rfl) ?_
  refine lv_iconst (v := 0) hx hb dX6_again_1 (by decide) ?_
  refine va_put (D := D) (ci := 6) (v := .int 0) (ty := .int) (C := RX6) (T := TX6) (N := 28) hx hb hts iX6_again_X6 tyX6 tyX6_ok nmX6 hown hK.1 hP hD hS 0 rfl rfl 0 (by decide) (hts (.fieldLink RX6 61 "DarkPlaceModel" "thrown" "I") (List.mem_of_getElem? (i := 1) rfl)) (fun _ h9 => h9) rfl (by decide +kernel) rfl rfl (Nat.le_of_ble_eq_true rfl) dX6_again_2 (fun H locs hP hD hS => ?_)
  have hP : va_P D vwCl (wMd cy hM aM sdM (upd M.1 0 0, M.2)) H := hP
  have hD : va_D A (wMd cy hM aM sdM (upd M.1 0 0, M.2)) := hD
  refine lv_iload_n hx hb dX6_again_5 rfl (lv_at hl 1 rfl) ?_
  refine lv_i2l hx hb dX6_again_6 rfl ?_
  refine lv_lconst (v := 0) hx hb dX6_again_7 (by decide) ?_
  refine lv_lconst (v := 1) hx hb dX6_again_8 (by decide) ?_
  obtain ⟨r9, k9, hf⟩ := dk_bind hf
  refine dk_ri (va_runS (As := [.long v1.toInt64, .long 0, .long 1]) (rest := []) ⟨hx, hb, hml, hown, hts⟩ (kX6_in l D cy v1.toInt64 0 1 r9 k9) (va_cwS 3 hts gX6_again_X6_in rfl rfl rfl (by decide +kernel) ⟨Nat.le_of_ble_eq_true rfl, Nat.le_of_ble_eq_true rfl⟩) (dk_preS hK (hP.sub (ws' := []) [] rfl)) rfl rfl hl.1 rfl (lv_room (Nat.le_of_ble_eq_true rfl)) dX6_again_9 ⟨Nat.zero_le _, Nat.zero_le _⟩) ?_
  refine dk_ine (tgt := 17) hx hb dX6_again_12 (by decide) hf (fun hf => ?_) (fun hf => ?_)
  · refine lv_aload_n hx hb dX6_again_17 rfl (lv_at hl 0 rfl) ?_
    refine va_get (D := D) (ci := 6) (v := .ref (aM 21)) (C := RX6) (T := TX6) (N := 28) hx hb hts iX6_again_X6 hown hK.1 hP 0 rfl rfl 21 (by decide) (hts (.fieldLink RX6 41 "DarkPlaceModel" "isKept" "[Z") (List.mem_of_getElem? (i := 2) rfl)) (fun _ h9 => h9) rfl dX6_again_18 ?_
    refine lv_iload_n hx hb dX6_again_21 rfl (lv_at hl 1 rfl) ?_
    refine dk_zald hx hb hK.1 hP 11 1 rfl rfl hf dX6_again_22 (fun d22 hf => ?_)
    refine dk_ine (tgt := 29) hx hb dX6_again_23 (by decide) hf (fun hf => ?_) (fun hf => ?_)
    · refine lv_iconst (v := 0) hx hb dX6_again_29 (by decide) ?_
      refine lv_istore_n (lv' := [(2, .int 0), (0, .ref hM), (1, .int v1)]) hx hb dX6_again_30 rfl hl (by decide) rfl (fun ls hl => ?_)
      exact L31 1000 v1 0 (upd M.1 0 0) (M.2 16) _ _ _ hP hD hS (lv_sub hl [1, 2, 0] rfl) hf
    · refine lv_bipush (v := (-3)) hx hb dX6_again_26 (by decide) ?_
      have e := Option.some.inj hf
      simp only [Prod.mk.injEq] at e
      obtain ⟨e0, e1, e2⟩ := e
      subst e1
      subst e2
      exact W.iret (v := (-3)) hx hb hr (fun t ht hW => ⟨⟨(-3), (), rfl, e0, by rw [ht]; exact hP, hD⟩, hS.F ht⟩) hS.2.2 dX6_again_28
  · refine lv_iconst (v := (-1)) hx hb dX6_again_15 (by decide) ?_
    have e := Option.some.inj hf
    simp only [Prod.mk.injEq] at e
    obtain ⟨e0, e1, e2⟩ := e
    subst e1
    subst e2
    exact W.iret (v := (-1)) hx hb hr (fun t ht hW => ⟨⟨(-1), (), rfl, e0, by rw [ht]; exact hP, hD⟩, hS.F ht⟩) hS.2.2 dX6_again_16
theorem iX6_count_X6 : ∀ w ∈ wsX60, w ∈ wsX6_count := fun _ h => List.mem_cons_of_mem _ (List.mem_append_right _ h)
set_option maxHeartbeats 4000000 in
set_option maxRecDepth 100000 in
theorem kX6_count (l : Launch) (D : va_G) (cy : Nat → ClassId) (hM : Nat) (aM : Nat → Nat) (sdM : Int64) (sz : Nat) (M : dk_O) (v1 : Int32) (r : Int32) (oM_I : (Nat → Int32)) (hf : fX6_count M v1 = some (r, oM_I)) : dk_MuI l yX6_count wsX6_count ({ frames := 0, cells := 0, slots := 0, locals := 0 }) D cy [.ref hM, .int v1] (wMd cy hM aM sdM M) (wMd cy hM aM sdM (oM_I, M.2)) sz r := by
  refine Met.ofW (cc := cX6_count) (maxL := 2) (ret := (some .int)) (by decide) rfl ?_
  intro p e s m args below meth c s₁ B hml hv
  obtain ⟨rfl, hsz, hP, hK, hD0⟩ := hv
  have hx := B.exec
  have hb := B.bytes
  have hr := B.returns
  have hts := atoms_spec (ws := wsX6_count) B.pre
  have hown : s.vm.findClass RX6 = some m.cls := findClass_of_methodNamed B.named
  have hlocks := B.notSynchronized
  subst hsz
  have hD := hD0.self (sz := s.heap.size)
  generalize hAe : va_A (wMd cy hM aM sdM M) s.heap.size = A at hD ⊢
  have hA : ∀ q : Nat, s.heap.size ≤ q → A q := fun q h => by rw [← hAe]; exact Or.inr h
  have hS : va_S A s.heap s.heap [] := va_S.rf
  have hl := lv_entry ([.ref hM, .int v1]) (n := 2) (Nat.le_of_ble_eq_true rfl)
  rw [lg_entry_eq]
  generalize (lg_sl ([.ref hM, .int v1]) ++ List.replicate (2 - (lg_sl ([.ref hM, .int v1])).length) Slot.unset).toArray = ls at hl ⊢
  have hl : lv_has ls 2 [(0, .ref hM), (1, .int v1)] := hl
  unfold fX6_count at hf
  refine lv_aload_n hx hb dX6_count_0 rfl (lv_at hl 0 rfl) ?_
  refine lv_iconst (v := 0) hx hb dX6_count_1 (by decide) ?_
  refine va_put (D := D) (ci := 6) (v := .int 0) (ty := .int) (C := RX6) (T := TX6) (N := 28) hx hb hts iX6_count_X6 tyX6 tyX6_ok nmX6 hown hK.1 hP hD hS 0 rfl rfl 0 (by decide) (hts (.fieldLink RX6 61 "DarkPlaceModel" "thrown" "I") (List.mem_of_getElem? (i := 1) rfl)) (fun _ h9 => h9) rfl (by decide +kernel) rfl rfl (Nat.le_of_ble_eq_true rfl) dX6_count_2 (fun H locs hP hD hS => ?_)
  have hP : va_P D vwCl (wMd cy hM aM sdM (upd M.1 0 0, M.2)) H := hP
  have hD : va_D A (wMd cy hM aM sdM (upd M.1 0 0, M.2)) := hD
  refine lv_iload_n hx hb dX6_count_5 rfl (lv_at hl 1 rfl) ?_
  by_cases q6_0 : v1 = 0
  · have hf := dk_pos hf q6_0
    refine lv_tableIn (tgt := 52) hx hb dX6_count_6 (by rw [q6_0]; decide) (by rw [q6_0]; decide) (by rw [q6_0]; rfl) (by decide) ?_
    refine lv_aload_n hx hb dX6_count_52 rfl (lv_at hl 0 rfl) ?_
    refine va_get (D := D) (ci := 6) (v := .int (M.1 2)) (C := RX6) (T := TX6) (N := 28) hx hb hts iX6_count_X6 hown hK.1 hP 0 rfl rfl 2 (by decide) (hts (.fieldLink RX6 126 "DarkPlaceModel" "textSize" "I") (List.mem_of_getElem? (i := 2) rfl)) (fun _ h9 => h9) rfl dX6_count_53 ?_
    have e := Option.some.inj hf
    simp only [Prod.mk.injEq] at e
    obtain ⟨e0, e1⟩ := e
    subst e1
    exact W.iret (v := M.1 2) hx hb hr (fun t ht hW => ⟨⟨M.1 2, (), rfl, e0, by rw [ht]; exact hP, hD⟩, hS.F ht⟩) hS.2.2 dX6_count_56
  have hf := dk_neg hf q6_0
  by_cases q6_1 : v1 = 1
  · have hf := dk_pos hf q6_1
    refine lv_tableIn (tgt := 57) hx hb dX6_count_6 (by rw [q6_1]; decide) (by rw [q6_1]; decide) (by rw [q6_1]; rfl) (by decide) ?_
    refine lv_aload_n hx hb dX6_count_57 rfl (lv_at hl 0 rfl) ?_
    refine va_get (D := D) (ci := 6) (v := .int (M.1 4)) (C := RX6) (T := TX6) (N := 28) hx hb hts iX6_count_X6 hown hK.1 hP 0 rfl rfl 4 (by decide) (hts (.fieldLink RX6 13 "DarkPlaceModel" "places" "I") (List.mem_of_getElem? (i := 3) rfl)) (fun _ h9 => h9) rfl dX6_count_58 ?_
    have e := Option.some.inj hf
    simp only [Prod.mk.injEq] at e
    obtain ⟨e0, e1⟩ := e
    subst e1
    exact W.iret (v := M.1 4) hx hb hr (fun t ht hW => ⟨⟨M.1 4, (), rfl, e0, by rw [ht]; exact hP, hD⟩, hS.F ht⟩) hS.2.2 dX6_count_61
  have hf := dk_neg hf q6_1
  by_cases q6_2 : v1 = 2
  · have hf := dk_pos hf q6_2
    refine lv_tableIn (tgt := 62) hx hb dX6_count_6 (by rw [q6_2]; decide) (by rw [q6_2]; decide) (by rw [q6_2]; rfl) (by decide) ?_
    refine lv_aload_n hx hb dX6_count_62 rfl (lv_at hl 0 rfl) ?_
    refine va_get (D := D) (ci := 6) (v := .int (M.1 6)) (C := RX6) (T := TX6) (N := 28) hx hb hts iX6_count_X6 hown hK.1 hP 0 rfl rfl 6 (by decide) (hts (.fieldLink RX6 71 "DarkPlaceModel" "edges" "I") (List.mem_of_getElem? (i := 4) rfl)) (fun _ h9 => h9) rfl dX6_count_63 ?_
    have e := Option.some.inj hf
    simp only [Prod.mk.injEq] at e
    obtain ⟨e0, e1⟩ := e
    subst e1
    exact W.iret (v := M.1 6) hx hb hr (fun t ht hW => ⟨⟨M.1 6, (), rfl, e0, by rw [ht]; exact hP, hD⟩, hS.F ht⟩) hS.2.2 dX6_count_66
  have hf := dk_neg hf q6_2
  by_cases q6_3 : v1 = 3
  · have hf := dk_pos hf q6_3
    refine lv_tableIn (tgt := 67) hx hb dX6_count_6 (by rw [q6_3]; decide) (by rw [q6_3]; decide) (by rw [q6_3]; rfl) (by decide) ?_
    refine lv_aload_n hx hb dX6_count_67 rfl (lv_at hl 0 rfl) ?_
    refine va_get (D := D) (ci := 6) (v := .ref (aM 16)) (C := RX6) (T := TX6) (N := 28) hx hb hts iX6_count_X6 hown hK.1 hP 0 rfl rfl 16 (by decide) (hts (.fieldLink RX6 29 "DarkPlaceModel" "page" "[I") (List.mem_of_getElem? (i := 5) rfl)) (fun _ h9 => h9) rfl dX6_count_68 ?_
    refine lv_iconst (v := 1) hx hb dX6_count_71 (by decide) ?_
    refine dk_iald hx hb hK.1 hP 4 0 rfl rfl hf dX6_count_72 (fun d72 hf => ?_)
    have e := Option.some.inj hf
    simp only [Prod.mk.injEq] at e
    obtain ⟨e0, e1⟩ := e
    subst e1
    exact W.iret (v := d72) hx hb hr (fun t ht hW => ⟨⟨d72, (), rfl, e0, by rw [ht]; exact hP, hD⟩, hS.F ht⟩) hS.2.2 dX6_count_73
  have hf := dk_neg hf q6_3
  by_cases q6_4 : v1 = 4
  · have hf := dk_pos hf q6_4
    refine lv_tableIn (tgt := 74) hx hb dX6_count_6 (by rw [q6_4]; decide) (by rw [q6_4]; decide) (by rw [q6_4]; rfl) (by decide) ?_
    refine lv_aload_n hx hb dX6_count_74 rfl (lv_at hl 0 rfl) ?_
    refine va_get (D := D) (ci := 6) (v := .int (M.1 5)) (C := RX6) (T := TX6) (N := 28) hx hb hts iX6_count_X6 hown hK.1 hP 0 rfl rfl 5 (by decide) (hts (.fieldLink RX6 64 "DarkPlaceModel" "home" "I") (List.mem_of_getElem? (i := 6) rfl)) (fun _ h9 => h9) rfl dX6_count_75 ?_
    have e := Option.some.inj hf
    simp only [Prod.mk.injEq] at e
    obtain ⟨e0, e1⟩ := e
    subst e1
    exact W.iret (v := M.1 5) hx hb hr (fun t ht hW => ⟨⟨M.1 5, (), rfl, e0, by rw [ht]; exact hP, hD⟩, hS.F ht⟩) hS.2.2 dX6_count_78
  have hf := dk_neg hf q6_4
  by_cases q6_5 : v1 = 5
  · have hf := dk_pos hf q6_5
    refine lv_tableIn (tgt := 79) hx hb dX6_count_6 (by rw [q6_5]; decide) (by rw [q6_5]; decide) (by rw [q6_5]; rfl) (by decide) ?_
    refine lv_aload_n hx hb dX6_count_79 rfl (lv_at hl 0 rfl) ?_
    refine va_get (D := D) (ci := 6) (v := .ref (aM 16)) (C := RX6) (T := TX6) (N := 28) hx hb hts iX6_count_X6 hown hK.1 hP 0 rfl rfl 16 (by decide) (hts (.fieldLink RX6 29 "DarkPlaceModel" "page" "[I") (List.mem_of_getElem? (i := 5) rfl)) (fun _ h9 => h9) rfl dX6_count_80 ?_
    refine lv_iconst (v := 0) hx hb dX6_count_83 (by decide) ?_
    refine dk_iald hx hb hK.1 hP 4 0 rfl rfl hf dX6_count_84 (fun d84 hf => ?_)
    have e := Option.some.inj hf
    simp only [Prod.mk.injEq] at e
    obtain ⟨e0, e1⟩ := e
    subst e1
    exact W.iret (v := d84) hx hb hr (fun t ht hW => ⟨⟨d84, (), rfl, e0, by rw [ht]; exact hP, hD⟩, hS.F ht⟩) hS.2.2 dX6_count_85
  have hf := dk_neg hf q6_5
  by_cases q6_6 : v1 = 6
  · have hf := dk_pos hf q6_6
    refine lv_tableIn (tgt := 86) hx hb dX6_count_6 (by rw [q6_6]; decide) (by rw [q6_6]; decide) (by rw [q6_6]; rfl) (by decide) ?_
    refine lv_aload_n hx hb dX6_count_86 rfl (lv_at hl 0 rfl) ?_
    refine va_get (D := D) (ci := 6) (v := .int (M.1 19)) (C := RX6) (T := TX6) (N := 28) hx hb hts iX6_count_X6 hown hK.1 hP 0 rfl rfl 19 (by decide) (hts (.fieldLink RX6 163 "DarkPlaceModel" "doings" "I") (List.mem_of_getElem? (i := 7) rfl)) (fun _ h9 => h9) rfl dX6_count_87 ?_
    have e := Option.some.inj hf
    simp only [Prod.mk.injEq] at e
    obtain ⟨e0, e1⟩ := e
    subst e1
    exact W.iret (v := M.1 19) hx hb hr (fun t ht hW => ⟨⟨M.1 19, (), rfl, e0, by rw [ht]; exact hP, hD⟩, hS.F ht⟩) hS.2.2 dX6_count_90
  have hf := dk_neg hf q6_6
  by_cases q6_7 : v1 = 7
  · have hf := dk_pos hf q6_7
    refine lv_tableIn (tgt := 91) hx hb dX6_count_6 (by rw [q6_7]; decide) (by rw [q6_7]; decide) (by rw [q6_7]; rfl) (by decide) ?_
    refine lv_aload_n hx hb dX6_count_91 rfl (lv_at hl 0 rfl) ?_
    refine va_get (D := D) (ci := 6) (v := .int (M.1 22)) (C := RX6) (T := TX6) (N := 28) hx hb hts iX6_count_X6 hown hK.1 hP 0 rfl rfl 22 (by decide) (hts (.fieldLink RX6 224 "DarkPlaceModel" "seen" "I") (List.mem_of_getElem? (i := 8) rfl)) (fun _ h9 => h9) rfl dX6_count_92 ?_
    have e := Option.some.inj hf
    simp only [Prod.mk.injEq] at e
    obtain ⟨e0, e1⟩ := e
    subst e1
    exact W.iret (v := M.1 22) hx hb hr (fun t ht hW => ⟨⟨M.1 22, (), rfl, e0, by rw [ht]; exact hP, hD⟩, hS.F ht⟩) hS.2.2 dX6_count_95
  have hf := dk_neg hf q6_7
  refine lv_tableOut (tgt := 96) hx hb dX6_count_6 (dk_tabOut 0 8 (by decide) (fun k h1 h2 => by
    rcases (show k = 0 ∨ k = 1 ∨ k = 2 ∨ k = 3 ∨ k = 4 ∨ k = 5 ∨ k = 6 ∨ k = 7 by omega) with rfl | rfl | rfl | rfl | rfl | rfl | rfl | rfl
    · exact q6_0
    · exact q6_1
    · exact q6_2
    · exact q6_3
    · exact q6_4
    · exact q6_5
    · exact q6_6
    · exact q6_7)) (by decide) ?_
  refine lv_bipush (v := (-2)) hx hb dX6_count_96 (by decide) ?_
  have e := Option.some.inj hf
  simp only [Prod.mk.injEq] at e
  obtain ⟨e0, e1⟩ := e
  subst e1
  exact W.iret (v := (-2)) hx hb hr (fun t ht hW => ⟨⟨(-2), (), rfl, e0, by rw [ht]; exact hP, hD⟩, hS.F ht⟩) hS.2.2 dX6_count_98
