-- printed by wip/gen (walks of the bytecode)
theorem iX6_judge_X6 : ∀ w ∈ wsX60, w ∈ wsX6_judge := fun _ h => List.mem_cons_of_mem _ (List.mem_append_right _ h)
set_option maxHeartbeats 4000000 in
set_option maxRecDepth 100000 in
theorem kX6_judge (l : Launch) (D : va_G) (cy : Nat → ClassId) (hM : Nat) (aM : Nat → Nat) (sdM : Int64) (sz : Nat) (M : dk_O) (v1 : Int32) (v2 : Int64) (r : Int32) (oM_I : (Nat → Int32)) (oM_26 : (Nat → Int32)) (oM_17 : (Nat → Int32)) (hf : fX6_judge M v1 v2 = some (r, oM_I, oM_26, oM_17)) : dk_MuI l yX6_judge wsX6_judge ({ frames := 6, cells := 0, slots := 0, locals := 141 }) D cy [.ref hM, .int v1, .long v2] (wMd cy hM aM sdM M) (wMd cy hM aM sdM (oM_I, dk_upA (dk_upA M.2 26 oM_26) 17 oM_17)) sz r := by
  refine Met.ofW (cc := cX6_judge) (maxL := 6) (ret := (some .int)) (by decide) rfl ?_
  intro p e s m args below meth c s₁ B hml hv
  obtain ⟨rfl, hsz, hP, hK, hD0⟩ := hv
  have hx := B.exec
  have hb := B.bytes
  have hr := B.returns
  have hts := atoms_spec (ws := wsX6_judge) B.pre
  have hown : s.vm.findClass RX6 = some m.cls := findClass_of_methodNamed B.named
  have hlocks := B.notSynchronized
  subst hsz
  have hD := hD0.self (sz := s.heap.size)
  generalize hAe : va_A (wMd cy hM aM sdM M) s.heap.size = A at hD ⊢
  have hA : ∀ q : Nat, s.heap.size ≤ q → A q := fun q h => by rw [← hAe]; exact Or.inr h
  have hS : va_S A s.heap s.heap [] := va_S.rf
  have hl := lv_entry ([.ref hM, .int v1, .long v2]) (n := 6) (Nat.le_of_ble_eq_true rfl)
  rw [lg_entry_eq]
  generalize (lg_sl ([.ref hM, .int v1, .long v2]) ++ List.replicate (6 - (lg_sl ([.ref hM, .int v1, .long v2])).length) Slot.unset).toArray = ls at hl ⊢
  have hl : lv_has ls 6 [(0, .ref hM), (1, .int v1), (2, .long v2)] := hl
  have L51 : ∀ (fu51 : Nat) (x1 : Int32) (x2 : Int64) (x4 : Int32) (M_I : (Nat → Int32)) (M_26 : (Nat → Int32)) (M_17 : (Nat → Int32)) (H : Heap) (locs : List Loc) (ls : Array Slot), va_P D vwCl (wMd cy hM aM sdM (M_I, dk_upA (dk_upA M.2 26 M_26) 17 M_17)) H → va_D A (wMd cy hM aM sdM (M_I, dk_upA (dk_upA M.2 26 M_26) 17 M_17)) → va_S A s.heap H locs → lv_has ls 6 [(0, .ref hM), (1, .int x1), (2, .long x2), (4, .int x4)] → fX6_judge_L51 M fu51 x1 x2 x4 M_I M_26 M_17 = some (r, oM_I, oM_26, oM_17) → W p l e (headSpec wsX6_judge ({ frames := 6, cells := 0, slots := 0, locals := 141 })).room s m ([.ref hM, .int v1, .long v2]).toArray below meth c H locs 0 0 (MQ below (va_Qi (fun (x : Int32) (_ : Unit) => x = r) (dk_B D (wMd cy hM aM sdM (oM_I, dk_upA (dk_upA M.2 26 oM_26) 17 oM_17)) A) A) ([.ref hM, .int v1, .long v2]).toArray s 0 0 A) (F0 m 51 ls []) := by
    intro fu51
    induction fu51 with
    | zero =>
      intro x1 x2 x4 M_I M_26 M_17 H locs ls hP hD hS hl hf
      rw [fX6_judge_L51] at hf
      cases hf
    | succ fu51 ih51 =>
      intro x1 x2 x4 M_I M_26 M_17 H locs ls hP hD hS hl hf
      rw [fX6_judge_L51] at hf
      refine lv_iload hx hb dX6_judge_51 (lv_at hl 3 rfl) ?_
      refine lv_iload_n hx hb dX6_judge_53 rfl (lv_at hl 1 rfl) ?_
      refine dk_cge (tgt := 112) hx hb dX6_judge_54 (by decide) hf (fun hf => ?_) (fun hf => ?_)
      · refine lv_bipush (v := (-9)) hx hb dX6_judge_112 (by decide) ?_
        have e := Option.some.inj hf
        simp only [Prod.mk.injEq] at e
        obtain ⟨e0, e1, e2, e3⟩ := e
        subst e1
        subst e2
        subst e3
        exact W.iret (v := (-9)) hx hb hr (fun t ht hW => ⟨⟨(-9), (), rfl, e0, by rw [ht]; exact hP, hD⟩, hS.F ht⟩) hS.2.2 dX6_judge_114
      · refine lv_lload_n hx hb dX6_judge_57 rfl (lv_at hl 2 rfl) ?_
        refine lv_ldc2 hx hb hown (hts (.constantLong RX6 212 (1000)) (List.mem_of_getElem? (i := 3) rfl)) dX6_judge_58 ?_
        refine lv_iload_n hx hb dX6_judge_61 rfl (lv_at hl 1 rfl) ?_
        refine lv_iconst (v := 1) hx hb dX6_judge_62 (by decide) ?_
        refine lv_isub hx hb dX6_judge_63 ?_
        refine lv_iload hx hb dX6_judge_64 (lv_at hl 3 rfl) ?_
        refine lv_isub hx hb dX6_judge_66 ?_
        obtain ⟨r67, k67, hf⟩ := dk_bind hf
        refine dk_rl (va_runS (As := [.long 1000, .int ((x1 - 1) - x4)]) (rest := [.long x2]) ⟨hx, hb, hml, hown, hts⟩ (kX6_longPower l D cy 1000 ((x1 - 1) - x4) r67 k67) (va_cwS 2 hts gX6_judge_X6_longPower rfl rfl rfl (by decide +kernel) ⟨Nat.le_of_ble_eq_true rfl, Nat.le_of_ble_eq_true rfl⟩) (dk_preS hK (hP.sub (ws' := []) [] rfl)) rfl rfl hl.1 rfl (lv_room (Nat.le_of_ble_eq_true rfl)) dX6_judge_67 ⟨Nat.zero_le _, Nat.zero_le _⟩) ?_
        obtain ⟨q70, hf⟩ := dk_guard hf
        refine lv_ldiv hx hb dX6_judge_70 q70 ?_
        refine lv_ldc2 hx hb hown (hts (.constantLong RX6 212 (1000)) (List.mem_of_getElem? (i := 3) rfl)) dX6_judge_71 ?_
        refine lv_lrem hx hb dX6_judge_74 (by decide) ?_
        refine lv_l2i hx hb dX6_judge_75 rfl ?_
        refine lv_istore (lv' := [(5, .int (((x2 / r67) - (x2 / r67) / 1000 * 1000).toInt32)), (0, .ref hM), (1, .int x1), (2, .long x2), (4, .int x4)]) hx hb dX6_judge_76 hl (by decide) rfl (fun ls hl => ?_)
        refine lv_aload_n hx hb dX6_judge_78 rfl (lv_at hl 1 rfl) ?_
        refine lv_iload hx hb dX6_judge_79 (lv_at hl 0 rfl) ?_
        refine lv_bipush (v := 100) hx hb dX6_judge_81 (by decide) ?_
        refine lv_idiv hx hb dX6_judge_83 (by decide) ?_
        refine lv_iload hx hb dX6_judge_84 (lv_at hl 0 rfl) ?_
        refine lv_bipush (v := 10) hx hb dX6_judge_86 (by decide) ?_
        refine lv_idiv hx hb dX6_judge_88 (by decide) ?_
        refine lv_bipush (v := 10) hx hb dX6_judge_89 (by decide) ?_
        refine lv_irem hx hb dX6_judge_91 (by decide) ?_
        refine lv_iload hx hb dX6_judge_92 (lv_at hl 0 rfl) ?_
        refine lv_bipush (v := 10) hx hb dX6_judge_94 (by decide) ?_
        refine lv_irem hx hb dX6_judge_96 (by decide) ?_
        obtain ⟨⟨r97, g97_0, g97_1⟩, k97, hf⟩ := dk_bind hf
        dsimp only at hf
        have hPc := hP.sub (ws' := wMd cy hM aM sdM (M_I, dk_upA (dk_upA M.2 26 M_26) 17 M_17)) [0, 1, 2, 3, 4, 5, 6, 7, 8, 9, 10, 11, 12, 13] rfl
        have hDc := hD.sub (ws' := wMd cy hM aM sdM (M_I, dk_upA (dk_upA M.2 26 M_26) 17 M_17)) [0, 1, 2, 3, 4, 5, 6, 7, 8, 9, 10, 11, 12, 13] (by decide) rfl
        have hFc := va_free (wc := wMd cy hM aM sdM (M_I, dk_upA (dk_upA M.2 26 M_26) 17 M_17)) hD hS hA [0, 1, 2, 3, 4, 5, 6, 7, 8, 9, 10, 11, 12, 13] rfl
        refine va_calli (va_runV (As := [.int ((((x2 / r67) - (x2 / r67) / 1000 * 1000).toInt32) / 100), .int (((((x2 / r67) - (x2 / r67) / 1000 * 1000).toInt32) / 10) - ((((x2 / r67) - (x2 / r67) / 1000 * 1000).toInt32) / 10) / 10 * 10), .int ((((x2 / r67) - (x2 / r67) / 1000 * 1000).toInt32) - (((x2 / r67) - (x2 / r67) / 1000 * 1000).toInt32) / 10 * 10)]) (rest := []) ⟨hx, hb, hml, hown, hts⟩ (kX6_does l D cy hM aM sdM H.size (M_I, dk_upA (dk_upA M.2 26 M_26) 17 M_17) ((((x2 / r67) - (x2 / r67) / 1000 * 1000).toInt32) / 100) (((((x2 / r67) - (x2 / r67) / 1000 * 1000).toInt32) / 10) - ((((x2 / r67) - (x2 / r67) / 1000 * 1000).toInt32) / 10) / 10 * 10) ((((x2 / r67) - (x2 / r67) / 1000 * 1000).toInt32) - (((x2 / r67) - (x2 / r67) / 1000 * 1000).toInt32) / 10 * 10) r97 g97_0 g97_1 k97) (cwV 3 hts gX6_judge_X6_does rfl rfl rfl (by decide +kernel) ⟨Nat.le_of_ble_eq_true rfl, Nat.le_of_ble_eq_true rfl⟩) (dk_premV hK hPc hDc (ci := 6) (q0 := 0) rfl rfl) rfl rfl hl.1 rfl (lv_room (Nat.le_of_ble_eq_true rfl)) dX6_judge_97 ⟨Nat.zero_le _, Nat.zero_le _⟩) hS (fun q _ h => hFc q h) hFc (fun xr97 u t H1 locs ht hvm hw hB hz1 hk1 hS => ?_)
        obtain ⟨hP1, hD1⟩ := hB
        rw [ht] at hP1
        rw [hw]
        obtain ⟨hP, hD⟩ := va_join (wr := ([] : List Nat).filterMap (fun i => (wMd cy hM aM sdM (M_I, dk_upA (dk_upA M.2 26 M_26) 17 M_17))[i]?)) (w1 := wMd cy hM aM sdM (M_I, dk_upA (dk_upA M.2 26 g97_0) 17 g97_1)) hP hD [0, 1, 2, 3, 4, 5, 6, 7, 8, 9, 10, 11, 12, 13] [] rfl rfl (by decide) (by decide) hk1 hFc hP1 hD1
        generalize H1 = H at hP hS ⊢
        have hP : va_P D vwCl (wMd cy hM aM sdM (M_I, dk_upA (dk_upA M.2 26 g97_0) 17 g97_1)) H := hP.sub [0, 1, 2, 3, 4, 5, 6, 7, 8, 9, 10, 11, 12, 13] rfl
        have hD : va_D A (wMd cy hM aM sdM (M_I, dk_upA (dk_upA M.2 26 g97_0) 17 g97_1)) := hD.sub [0, 1, 2, 3, 4, 5, 6, 7, 8, 9, 10, 11, 12, 13] (by decide) rfl
        refine dk_ine (tgt := 106) hx hb dX6_judge_100 (by decide) hf (fun hf => ?_) (fun hf => ?_)
        · refine lv_iinc (v := x4 + 1) (lv' := [(4, .int (x4 + 1)), (5, .int (((x2 / r67) - (x2 / r67) / 1000 * 1000).toInt32)), (0, .ref hM), (1, .int x1), (2, .long x2)]) hx hb dX6_judge_106 hl (k := 4) rfl rfl (by decide) rfl (fun ls hl => ?_)
          refine lv_goto (tgt := 51) hx hb dX6_judge_109 (by decide) ?_
          exact ih51 x1 x2 (x4 + 1) M_I g97_0 g97_1 _ _ _ hP hD hS (lv_sub hl [2, 3, 4, 0] rfl) hf
        · refine lv_iload hx hb dX6_judge_103 (lv_at hl 4 rfl) ?_
          have e := Option.some.inj hf
          simp only [Prod.mk.injEq] at e
          obtain ⟨e0, e1, e2, e3⟩ := e
          subst e1
          subst e2
          subst e3
          exact W.iret (v := x4) hx hb hr (fun t ht hW => ⟨⟨x4, (), rfl, e0, by rw [ht]; exact hP, hD⟩, hS.F ht⟩) hS.2.2 dX6_judge_105
  unfold fX6_judge at hf
  refine lv_aload_n hx hb dX6_judge_0 rfl (lv_at hl 0 rfl) ?_
  refine lv_iconst (v := 0) hx hb dX6_judge_1 (by decide) ?_
  refine va_put (D := D) (ci := 6) (v := .int 0) (ty := .int) (C := RX6) (T := TX6) (N := 28) hx hb hts iX6_judge_X6 tyX6 tyX6_ok nmX6 hown hK.1 hP hD hS 0 rfl rfl 0 (by decide) (hts (.fieldLink RX6 61 "DarkPlaceModel" "thrown" "I") (List.mem_of_getElem? (i := 1) rfl)) (fun _ h9 => h9) rfl (by decide +kernel) rfl rfl (Nat.le_of_ble_eq_true rfl) dX6_judge_2 (fun H locs hP hD hS => ?_)
  have hP : va_P D vwCl (wMd cy hM aM sdM (upd M.1 0 0, M.2)) H := hP
  have hD : va_D A (wMd cy hM aM sdM (upd M.1 0 0, M.2)) := hD
  refine lv_iload_n hx hb dX6_judge_5 rfl (lv_at hl 1 rfl) ?_
  refine lv_i2l hx hb dX6_judge_6 rfl ?_
  refine lv_lconst (v := 1) hx hb dX6_judge_7 (by decide) ?_
  refine lv_ldc2 hx hb hown (hts (.constantLong RX6 210 (4)) (List.mem_of_getElem? (i := 2) rfl)) dX6_judge_8 ?_
  obtain ⟨r11, k11, hf⟩ := dk_bind hf
  refine dk_ri (va_runS (As := [.long v1.toInt64, .long 1, .long 4]) (rest := []) ⟨hx, hb, hml, hown, hts⟩ (kX6_in l D cy v1.toInt64 1 4 r11 k11) (va_cwS 3 hts gX6_judge_X6_in rfl rfl rfl (by decide +kernel) ⟨Nat.le_of_ble_eq_true rfl, Nat.le_of_ble_eq_true rfl⟩) (dk_preS hK (hP.sub (ws' := []) [] rfl)) rfl rfl hl.1 rfl (lv_room (Nat.le_of_ble_eq_true rfl)) dX6_judge_11 ⟨Nat.zero_le _, Nat.zero_le _⟩) ?_
  refine dk_ieq (tgt := 34) hx hb dX6_judge_14 (by decide) hf (fun hf => ?_) (fun hf => ?_)
  · refine lv_bipush (v := (-2)) hx hb dX6_judge_34 (by decide) ?_
    have e := Option.some.inj hf
    simp only [Prod.mk.injEq] at e
    obtain ⟨e0, e1, e2, e3⟩ := e
    subst e1
    subst e2
    subst e3
    exact W.iret (v := (-2)) hx hb hr (fun t ht hW => ⟨⟨(-2), (), rfl, e0, by rw [ht]; exact hP, hD⟩, hS.F ht⟩) hS.2.2 dX6_judge_36
  · refine lv_lload_n hx hb dX6_judge_17 rfl (lv_at hl 2 rfl) ?_
    refine lv_lconst (v := 0) hx hb dX6_judge_18 (by decide) ?_
    refine lv_ldc2 hx hb hown (hts (.constantLong RX6 212 (1000)) (List.mem_of_getElem? (i := 3) rfl)) dX6_judge_19 ?_
    refine lv_iload_n hx hb dX6_judge_22 rfl (lv_at hl 1 rfl) ?_
    obtain ⟨r23, k23, hf⟩ := dk_bind hf
    refine dk_rl (va_runS (As := [.long 1000, .int v1]) (rest := [.long 0, .long v2]) ⟨hx, hb, hml, hown, hts⟩ (kX6_longPower l D cy 1000 v1 r23 k23) (va_cwS 2 hts gX6_judge_X6_longPower rfl rfl rfl (by decide +kernel) ⟨Nat.le_of_ble_eq_true rfl, Nat.le_of_ble_eq_true rfl⟩) (dk_preS hK (hP.sub (ws' := []) [] rfl)) rfl rfl hl.1 rfl (lv_room (Nat.le_of_ble_eq_true rfl)) dX6_judge_23 ⟨Nat.zero_le _, Nat.zero_le _⟩) ?_
    refine lv_lconst (v := 1) hx hb dX6_judge_26 (by decide) ?_
    refine lv_lsub hx hb dX6_judge_27 ?_
    obtain ⟨r28, k28, hf⟩ := dk_bind hf
    refine dk_ri (va_runS (As := [.long v2, .long 0, .long (r23 - 1)]) (rest := []) ⟨hx, hb, hml, hown, hts⟩ (kX6_in l D cy v2 0 (r23 - 1) r28 k28) (va_cwS 3 hts gX6_judge_X6_in rfl rfl rfl (by decide +kernel) ⟨Nat.le_of_ble_eq_true rfl, Nat.le_of_ble_eq_true rfl⟩) (dk_preS hK (hP.sub (ws' := []) [] rfl)) rfl rfl hl.1 rfl (lv_room (Nat.le_of_ble_eq_true rfl)) dX6_judge_28 ⟨Nat.zero_le _, Nat.zero_le _⟩) ?_
    refine dk_ine (tgt := 37) hx hb dX6_judge_31 (by decide) hf (fun hf => ?_) (fun hf => ?_)
    · refine lv_aload_n hx hb dX6_judge_37 rfl (lv_at hl 0 rfl) ?_
      refine va_get (D := D) (ci := 6) (v := .ref (aM 16)) (C := RX6) (T := TX6) (N := 28) hx hb hts iX6_judge_X6 hown hK.1 hP 0 rfl rfl 16 (by decide) (hts (.fieldLink RX6 29 "DarkPlaceModel" "page" "[I") (List.mem_of_getElem? (i := 4) rfl)) (fun _ h9 => h9) rfl dX6_judge_38 ?_
      refine lv_aload_n hx hb dX6_judge_41 rfl (lv_at hl 0 rfl) ?_
      refine va_get (D := D) (ci := 6) (v := .ref (aM 17)) (C := RX6) (T := TX6) (N := 28) hx hb hts iX6_judge_X6 hown hK.1 hP 0 rfl rfl 17 (by decide) (hts (.fieldLink RX6 32 "DarkPlaceModel" "trial" "[I") (List.mem_of_getElem? (i := 5) rfl)) (fun _ h9 => h9) rfl dX6_judge_42 ?_
      obtain ⟨g45_0, k45, hf⟩ := dk_bind hf
      have hPc := hP.sub (ws' := wRw cy (aM 16) 21 (M.2 16) ++ wRw cy (aM 17) 21 (M.2 17)) [4, 5] rfl
      have hDc := hD.sub (ws' := wRw cy (aM 16) 21 (M.2 16) ++ wRw cy (aM 17) 21 (M.2 17)) [4, 5] (by decide) rfl
      have hFc := va_free (wc := wRw cy (aM 16) 21 (M.2 16) ++ wRw cy (aM 17) 21 (M.2 17)) hD hS hA [4, 5] rfl
      refine va_callv (va_runS (As := [.ref (aM 16), .ref (aM 17)]) (rest := []) ⟨hx, hb, hml, hown, hts⟩ (kX6_lay l D cy (aM 16) (aM 17) H.size (M.2 16) (M.2 17) g45_0 k45) (va_cwS 2 hts gX6_judge_X6_lay rfl rfl rfl (by decide +kernel) ⟨Nat.le_of_ble_eq_true rfl, Nat.le_of_ble_eq_true rfl⟩) (dk_premS hK hPc hDc) rfl rfl hl.1 rfl (lv_room (Nat.le_of_ble_eq_true rfl)) dX6_judge_45 ⟨Nat.zero_le _, Nat.zero_le _⟩) hS (fun q _ h => hFc q h) hFc (fun u t H1 locs ht hvm hw hB hz1 hk1 hS => ?_)
      obtain ⟨hP1, hD1⟩ := hB
      rw [ht] at hP1
      obtain ⟨hP, hD⟩ := va_join (wr := ([0, 1, 2, 3, 6, 7, 8, 9, 10, 11, 12, 13] : List Nat).filterMap (fun i => (wMd cy hM aM sdM (upd M.1 0 0, M.2))[i]?)) (w1 := wRw cy (aM 16) 21 (M.2 16) ++ wRw cy (aM 17) 21 g45_0) hP hD [4, 5] [0, 1, 2, 3, 6, 7, 8, 9, 10, 11, 12, 13] rfl rfl (by decide) (by decide) hk1 hFc hP1 hD1
      generalize H1 = H at hP hS ⊢
      have hP : va_P D vwCl (wMd cy hM aM sdM (upd M.1 0 0, dk_upA M.2 17 g45_0)) H := hP.sub [0, 1, 2, 3, 12, 13, 4, 5, 6, 7, 8, 9, 10, 11] rfl
      have hD : va_D A (wMd cy hM aM sdM (upd M.1 0 0, dk_upA M.2 17 g45_0)) := hD.sub [0, 1, 2, 3, 12, 13, 4, 5, 6, 7, 8, 9, 10, 11] (by decide) rfl
      refine lv_iconst (v := 0) hx hb dX6_judge_48 (by decide) ?_
      refine lv_istore (lv' := [(4, .int 0), (0, .ref hM), (1, .int v1), (2, .long v2)]) hx hb dX6_judge_49 hl (by decide) rfl (fun ls hl => ?_)
      exact L51 1000 v1 v2 0 (upd M.1 0 0) (M.2 26) g45_0 _ _ _ hP hD hS (lv_sub hl [1, 2, 3, 0] rfl) hf
    · refine lv_bipush (v := (-2)) hx hb dX6_judge_34 (by decide) ?_
      have e := Option.some.inj hf
      simp only [Prod.mk.injEq] at e
      obtain ⟨e0, e1, e2, e3⟩ := e
      subst e1
      subst e2
      subst e3
      exact W.iret (v := (-2)) hx hb hr (fun t ht hW => ⟨⟨(-2), (), rfl, e0, by rw [ht]; exact hP, hD⟩, hS.F ht⟩) hS.2.2 dX6_judge_36
theorem iX6_see_X6 : ∀ w ∈ wsX60, w ∈ wsX6_see := fun _ h => List.mem_cons_of_mem _ (List.mem_append_right _ h)
set_option maxHeartbeats 4000000 in
set_option maxRecDepth 100000 in
theorem kX6_see (l : Launch) (D : va_G) (cy : Nat → ClassId) (hM : Nat) (aM : Nat → Nat) (sdM : Int64) (sz : Nat) (M : dk_O) (v1 : Int32) (v2 : Int32) (r : Int32) (oM_I : (Nat → Int32)) (oM_23 : (Nat → Int32)) (oM_24 : (Nat → Int32)) (hf : fX6_see M v1 v2 = some (r, oM_I, oM_23, oM_24)) : dk_MuI l yX6_see wsX6_see ({ frames := 1, cells := 0, slots := 0, locals := 25 }) D cy [.ref hM, .int v1, .int v2] (wMd cy hM aM sdM M) (wMd cy hM aM sdM (oM_I, dk_upA (dk_upA M.2 23 oM_23) 24 oM_24)) sz r := by
  refine Met.ofW (cc := cX6_see) (maxL := 3) (ret := (some .int)) (by decide) rfl ?_
  intro p e s m args below meth c s₁ B hml hv
  obtain ⟨rfl, hsz, hP, hK, hD0⟩ := hv
  have hx := B.exec
  have hb := B.bytes
  have hr := B.returns
  have hts := atoms_spec (ws := wsX6_see) B.pre
  have hown : s.vm.findClass RX6 = some m.cls := findClass_of_methodNamed B.named
  have hlocks := B.notSynchronized
  subst hsz
  have hD := hD0.self (sz := s.heap.size)
  generalize hAe : va_A (wMd cy hM aM sdM M) s.heap.size = A at hD ⊢
  have hA : ∀ q : Nat, s.heap.size ≤ q → A q := fun q h => by rw [← hAe]; exact Or.inr h
  have hS : va_S A s.heap s.heap [] := va_S.rf
  have hl := lv_entry ([.ref hM, .int v1, .int v2]) (n := 3) (Nat.le_of_ble_eq_true rfl)
  rw [lg_entry_eq]
  generalize (lg_sl ([.ref hM, .int v1, .int v2]) ++ List.replicate (3 - (lg_sl ([.ref hM, .int v1, .int v2])).length) Slot.unset).toArray = ls at hl ⊢
  have hl : lv_has ls 3 [(0, .ref hM), (1, .int v1), (2, .int v2)] := hl
  unfold fX6_see at hf
  refine lv_aload_n hx hb dX6_see_0 rfl (lv_at hl 0 rfl) ?_
  refine lv_iconst (v := 0) hx hb dX6_see_1 (by decide) ?_
  refine va_put (D := D) (ci := 6) (v := .int 0) (ty := .int) (C := RX6) (T := TX6) (N := 28) hx hb hts iX6_see_X6 tyX6 tyX6_ok nmX6 hown hK.1 hP hD hS 0 rfl rfl 0 (by decide) (hts (.fieldLink RX6 61 "DarkPlaceModel" "thrown" "I") (List.mem_of_getElem? (i := 1) rfl)) (fun _ h9 => h9) rfl (by decide +kernel) rfl rfl (Nat.le_of_ble_eq_true rfl) dX6_see_2 (fun H locs hP hD hS => ?_)
  have hP : va_P D vwCl (wMd cy hM aM sdM (upd M.1 0 0, M.2)) H := hP
  have hD : va_D A (wMd cy hM aM sdM (upd M.1 0 0, M.2)) := hD
  refine lv_iload_n hx hb dX6_see_5 rfl (lv_at hl 1 rfl) ?_
  refine lv_i2l hx hb dX6_see_6 rfl ?_
  refine lv_lconst (v := 0) hx hb dX6_see_7 (by decide) ?_
  refine lv_ldc2 hx hb hown (hts (.constantLong RX6 222 (20)) (List.mem_of_getElem? (i := 2) rfl)) dX6_see_8 ?_
  obtain ⟨r11, k11, hf⟩ := dk_bind hf
  refine dk_ri (va_runS (As := [.long v1.toInt64, .long 0, .long 20]) (rest := []) ⟨hx, hb, hml, hown, hts⟩ (kX6_in l D cy v1.toInt64 0 20 r11 k11) (va_cwS 3 hts gX6_see_X6_in rfl rfl rfl (by decide +kernel) ⟨Nat.le_of_ble_eq_true rfl, Nat.le_of_ble_eq_true rfl⟩) (dk_preS hK (hP.sub (ws' := []) [] rfl)) rfl rfl hl.1 rfl (lv_room (Nat.le_of_ble_eq_true rfl)) dX6_see_11 ⟨Nat.zero_le _, Nat.zero_le _⟩) ?_
  refine dk_ieq (tgt := 29) hx hb dX6_see_14 (by decide) hf (fun hf => ?_) (fun hf => ?_)
  · refine lv_bipush (v := (-2)) hx hb dX6_see_29 (by decide) ?_
    have e := Option.some.inj hf
    simp only [Prod.mk.injEq] at e
    obtain ⟨e0, e1, e2, e3⟩ := e
    subst e1
    subst e2
    subst e3
    exact W.iret (v := (-2)) hx hb hr (fun t ht hW => ⟨⟨(-2), (), rfl, e0, by rw [ht]; exact hP, hD⟩, hS.F ht⟩) hS.2.2 dX6_see_31
  · refine lv_iload_n hx hb dX6_see_17 rfl (lv_at hl 2 rfl) ?_
    refine lv_i2l hx hb dX6_see_18 rfl ?_
    refine lv_lconst (v := 0) hx hb dX6_see_19 (by decide) ?_
    refine lv_ldc2 hx hb hown (hts (.constantLong RX6 210 (4)) (List.mem_of_getElem? (i := 3) rfl)) dX6_see_20 ?_
    obtain ⟨r23, k23, hf⟩ := dk_bind hf
    refine dk_ri (va_runS (As := [.long v2.toInt64, .long 0, .long 4]) (rest := []) ⟨hx, hb, hml, hown, hts⟩ (kX6_in l D cy v2.toInt64 0 4 r23 k23) (va_cwS 3 hts gX6_see_X6_in rfl rfl rfl (by decide +kernel) ⟨Nat.le_of_ble_eq_true rfl, Nat.le_of_ble_eq_true rfl⟩) (dk_preS hK (hP.sub (ws' := []) [] rfl)) rfl rfl hl.1 rfl (lv_room (Nat.le_of_ble_eq_true rfl)) dX6_see_23 ⟨Nat.zero_le _, Nat.zero_le _⟩) ?_
    refine dk_ine (tgt := 32) hx hb dX6_see_26 (by decide) hf (fun hf => ?_) (fun hf => ?_)
    · refine lv_aload_n hx hb dX6_see_32 rfl (lv_at hl 0 rfl) ?_
      refine va_get (D := D) (ci := 6) (v := .int (M.1 22)) (C := RX6) (T := TX6) (N := 28) hx hb hts iX6_see_X6 hown hK.1 hP 0 rfl rfl 22 (by decide) (hts (.fieldLink RX6 224 "DarkPlaceModel" "seen" "I") (List.mem_of_getElem? (i := 4) rfl)) (fun _ h9 => h9) rfl dX6_see_33 ?_
      refine lv_bipush (v := 6) hx hb dX6_see_36 (by decide) ?_
      refine dk_cne (tgt := 44) hx hb dX6_see_38 (by decide) hf (fun hf => ?_) (fun hf => ?_)
      · refine lv_aload_n hx hb dX6_see_44 rfl (lv_at hl 0 rfl) ?_
        refine va_get (D := D) (ci := 6) (v := .ref (aM 23)) (C := RX6) (T := TX6) (N := 28) hx hb hts iX6_see_X6 hown hK.1 hP 0 rfl rfl 23 (by decide) (hts (.fieldLink RX6 45 "DarkPlaceModel" "seenRounds" "[I") (List.mem_of_getElem? (i := 5) rfl)) (fun _ h9 => h9) rfl dX6_see_45 ?_
        refine lv_aload_n hx hb dX6_see_48 rfl (lv_at hl 0 rfl) ?_
        refine va_get (D := D) (ci := 6) (v := .int (M.1 22)) (C := RX6) (T := TX6) (N := 28) hx hb hts iX6_see_X6 hown hK.1 hP 0 rfl rfl 22 (by decide) (hts (.fieldLink RX6 224 "DarkPlaceModel" "seen" "I") (List.mem_of_getElem? (i := 4) rfl)) (fun _ h9 => h9) rfl dX6_see_49 ?_
        refine lv_iload_n hx hb dX6_see_52 rfl (lv_at hl 1 rfl) ?_
        refine dk_iast hx hb hK.1 hP hD hS 12 0 rfl rfl hf dX6_see_53 (fun f53 H locs hP hD hS hf => ?_)
        have hP : va_P D vwCl (wMd cy hM aM sdM (upd M.1 0 0, dk_upA M.2 23 f53)) H := hP
        have hD : va_D A (wMd cy hM aM sdM (upd M.1 0 0, dk_upA M.2 23 f53)) := hD
        refine lv_aload_n hx hb dX6_see_54 rfl (lv_at hl 0 rfl) ?_
        refine va_get (D := D) (ci := 6) (v := .ref (aM 24)) (C := RX6) (T := TX6) (N := 28) hx hb hts iX6_see_X6 hown hK.1 hP 0 rfl rfl 24 (by decide) (hts (.fieldLink RX6 48 "DarkPlaceModel" "seenLives" "[I") (List.mem_of_getElem? (i := 6) rfl)) (fun _ h9 => h9) rfl dX6_see_55 ?_
        refine lv_aload_n hx hb dX6_see_58 rfl (lv_at hl 0 rfl) ?_
        refine va_get (D := D) (ci := 6) (v := .int (M.1 22)) (C := RX6) (T := TX6) (N := 28) hx hb hts iX6_see_X6 hown hK.1 hP 0 rfl rfl 22 (by decide) (hts (.fieldLink RX6 224 "DarkPlaceModel" "seen" "I") (List.mem_of_getElem? (i := 4) rfl)) (fun _ h9 => h9) rfl dX6_see_59 ?_
        refine lv_iload_n hx hb dX6_see_62 rfl (lv_at hl 2 rfl) ?_
        refine dk_iast hx hb hK.1 hP hD hS 13 0 rfl rfl hf dX6_see_63 (fun f63 H locs hP hD hS hf => ?_)
        have hP : va_P D vwCl (wMd cy hM aM sdM (upd M.1 0 0, dk_upA (dk_upA M.2 23 f53) 24 f63)) H := hP
        have hD : va_D A (wMd cy hM aM sdM (upd M.1 0 0, dk_upA (dk_upA M.2 23 f53) 24 f63)) := hD
        refine lv_aload_n hx hb dX6_see_64 rfl (lv_at hl 0 rfl) ?_
        refine lv_dup hx hb dX6_see_65 rfl ?_
        refine va_get (D := D) (ci := 6) (v := .int (M.1 22)) (C := RX6) (T := TX6) (N := 28) hx hb hts iX6_see_X6 hown hK.1 hP 0 rfl rfl 22 (by decide) (hts (.fieldLink RX6 224 "DarkPlaceModel" "seen" "I") (List.mem_of_getElem? (i := 4) rfl)) (fun _ h9 => h9) rfl dX6_see_66 ?_
        refine lv_iconst (v := 1) hx hb dX6_see_69 (by decide) ?_
        refine lv_iadd hx hb dX6_see_70 ?_
        refine va_put (D := D) (ci := 6) (v := .int ((M.1 22) + 1)) (ty := .int) (C := RX6) (T := TX6) (N := 28) hx hb hts iX6_see_X6 tyX6 tyX6_ok nmX6 hown hK.1 hP hD hS 0 rfl rfl 22 (by decide) (hts (.fieldLink RX6 224 "DarkPlaceModel" "seen" "I") (List.mem_of_getElem? (i := 4) rfl)) (fun _ h9 => h9) rfl (by decide +kernel) rfl rfl (Nat.le_of_ble_eq_true rfl) dX6_see_71 (fun H locs hP hD hS => ?_)
        have hP : va_P D vwCl (wMd cy hM aM sdM (upd (upd M.1 0 0) 22 ((M.1 22) + 1), dk_upA (dk_upA M.2 23 f53) 24 f63)) H := hP
        have hD : va_D A (wMd cy hM aM sdM (upd (upd M.1 0 0) 22 ((M.1 22) + 1), dk_upA (dk_upA M.2 23 f53) 24 f63)) := hD
        refine lv_aload_n hx hb dX6_see_74 rfl (lv_at hl 0 rfl) ?_
        refine va_get (D := D) (ci := 6) (v := .int ((M.1 22) + 1)) (C := RX6) (T := TX6) (N := 28) hx hb hts iX6_see_X6 hown hK.1 hP 0 rfl rfl 22 (by decide) (hts (.fieldLink RX6 224 "DarkPlaceModel" "seen" "I") (List.mem_of_getElem? (i := 4) rfl)) (fun _ h9 => h9) rfl dX6_see_75 ?_
        have e := Option.some.inj hf
        simp only [Prod.mk.injEq] at e
        obtain ⟨e0, e1, e2, e3⟩ := e
        subst e1
        subst e2
        subst e3
        exact W.iret (v := (M.1 22) + 1) hx hb hr (fun t ht hW => ⟨⟨(M.1 22) + 1, (), rfl, e0, by rw [ht]; exact hP, hD⟩, hS.F ht⟩) hS.2.2 dX6_see_78
      · refine lv_bipush (v := (-4)) hx hb dX6_see_41 (by decide) ?_
        have e := Option.some.inj hf
        simp only [Prod.mk.injEq] at e
        obtain ⟨e0, e1, e2, e3⟩ := e
        subst e1
        subst e2
        subst e3
        exact W.iret (v := (-4)) hx hb hr (fun t ht hW => ⟨⟨(-4), (), rfl, e0, by rw [ht]; exact hP, hD⟩, hS.F ht⟩) hS.2.2 dX6_see_43
    · refine lv_bipush (v := (-2)) hx hb dX6_see_29 (by decide) ?_
      have e := Option.some.inj hf
      simp only [Prod.mk.injEq] at e
      obtain ⟨e0, e1, e2, e3⟩ := e
      subst e1
      subst e2
      subst e3
      exact W.iret (v := (-2)) hx hb hr (fun t ht hW => ⟨⟨(-2), (), rfl, e0, by rw [ht]; exact hP, hD⟩, hS.F ht⟩) hS.2.2 dX6_see_31
theorem iX6_unsee_X6 : ∀ w ∈ wsX60, w ∈ wsX6_unsee := fun _ h => List.mem_cons_of_mem _ (List.mem_append_right _ h)
set_option maxHeartbeats 4000000 in
set_option maxRecDepth 100000 in
theorem kX6_unsee (l : Launch) (D : va_G) (cy : Nat → ClassId) (hM : Nat) (aM : Nat → Nat) (sdM : Int64) (sz : Nat) (M : dk_O)  (r : Int32) (oM_I : (Nat → Int32)) (hf : fX6_unsee M = some (r, oM_I)) : dk_MuI l yX6_unsee wsX6_unsee ({ frames := 0, cells := 0, slots := 0, locals := 0 }) D cy [.ref hM] (wMd cy hM aM sdM M) (wMd cy hM aM sdM (oM_I, M.2)) sz r := by
  refine Met.ofW (cc := cX6_unsee) (maxL := 2) (ret := (some .int)) (by decide) rfl ?_
  intro p e s m args below meth c s₁ B hml hv
  obtain ⟨rfl, hsz, hP, hK, hD0⟩ := hv
  have hx := B.exec
  have hb := B.bytes
  have hr := B.returns
  have hts := atoms_spec (ws := wsX6_unsee) B.pre
  have hown : s.vm.findClass RX6 = some m.cls := findClass_of_methodNamed B.named
  have hlocks := B.notSynchronized
  subst hsz
  have hD := hD0.self (sz := s.heap.size)
  generalize hAe : va_A (wMd cy hM aM sdM M) s.heap.size = A at hD ⊢
  have hA : ∀ q : Nat, s.heap.size ≤ q → A q := fun q h => by rw [← hAe]; exact Or.inr h
  have hS : va_S A s.heap s.heap [] := va_S.rf
  have hl := lv_entry ([.ref hM]) (n := 2) (Nat.le_of_ble_eq_true rfl)
  rw [lg_entry_eq]
  generalize (lg_sl ([.ref hM]) ++ List.replicate (2 - (lg_sl ([.ref hM])).length) Slot.unset).toArray = ls at hl ⊢
  have hl : lv_has ls 2 [(0, .ref hM)] := hl
  unfold fX6_unsee at hf
  refine lv_aload_n hx hb dX6_unsee_0 rfl (lv_at hl 0 rfl) ?_
  refine lv_iconst (v := 0) hx hb dX6_unsee_1 (by decide) ?_
  refine va_put (D := D) (ci := 6) (v := .int 0) (ty := .int) (C := RX6) (T := TX6) (N := 28) hx hb hts iX6_unsee_X6 tyX6 tyX6_ok nmX6 hown hK.1 hP hD hS 0 rfl rfl 0 (by decide) (hts (.fieldLink RX6 61 "DarkPlaceModel" "thrown" "I") (List.mem_of_getElem? (i := 1) rfl)) (fun _ h9 => h9) rfl (by decide +kernel) rfl rfl (Nat.le_of_ble_eq_true rfl) dX6_unsee_2 (fun H locs hP hD hS => ?_)
  have hP : va_P D vwCl (wMd cy hM aM sdM (upd M.1 0 0, M.2)) H := hP
  have hD : va_D A (wMd cy hM aM sdM (upd M.1 0 0, M.2)) := hD
  refine lv_aload_n hx hb dX6_unsee_5 rfl (lv_at hl 0 rfl) ?_
  refine va_get (D := D) (ci := 6) (v := .int (M.1 22)) (C := RX6) (T := TX6) (N := 28) hx hb hts iX6_unsee_X6 hown hK.1 hP 0 rfl rfl 22 (by decide) (hts (.fieldLink RX6 224 "DarkPlaceModel" "seen" "I") (List.mem_of_getElem? (i := 2) rfl)) (fun _ h9 => h9) rfl dX6_unsee_6 ?_
  refine lv_istore_n (lv' := [(1, .int (M.1 22)), (0, .ref hM)]) hx hb dX6_unsee_9 rfl hl (by decide) rfl (fun ls hl => ?_)
  refine lv_aload_n hx hb dX6_unsee_10 rfl (lv_at hl 1 rfl) ?_
  refine lv_iconst (v := 0) hx hb dX6_unsee_11 (by decide) ?_
  refine va_put (D := D) (ci := 6) (v := .int 0) (ty := .int) (C := RX6) (T := TX6) (N := 28) hx hb hts iX6_unsee_X6 tyX6 tyX6_ok nmX6 hown hK.1 hP hD hS 0 rfl rfl 22 (by decide) (hts (.fieldLink RX6 224 "DarkPlaceModel" "seen" "I") (List.mem_of_getElem? (i := 2) rfl)) (fun _ h9 => h9) rfl (by decide +kernel) rfl rfl (Nat.le_of_ble_eq_true rfl) dX6_unsee_12 (fun H locs hP hD hS => ?_)
  have hP : va_P D vwCl (wMd cy hM aM sdM (upd (upd M.1 0 0) 22 0, M.2)) H := hP
  have hD : va_D A (wMd cy hM aM sdM (upd (upd M.1 0 0) 22 0, M.2)) := hD
  refine lv_iload_n hx hb dX6_unsee_15 rfl (lv_at hl 0 rfl) ?_
  have e := Option.some.inj hf
  simp only [Prod.mk.injEq] at e
  obtain ⟨e0, e1⟩ := e
  subst e1
  exact W.iret (v := M.1 22) hx hb hr (fun t ht hW => ⟨⟨M.1 22, (), rfl, e0, by rw [ht]; exact hP, hD⟩, hS.F ht⟩) hS.2.2 dX6_unsee_16
theorem iX6_livingBehind_X6 : ∀ w ∈ wsX60, w ∈ wsX6_livingBehind := fun _ h => List.mem_cons_of_mem _ (List.mem_append_right _ h)
set_option maxHeartbeats 4000000 in
set_option maxRecDepth 100000 in
theorem kX6_livingBehind (l : Launch) (D : va_G) (cy : Nat → ClassId) (hM : Nat) (aM : Nat → Nat) (sdM : Int64) (sz : Nat) (M : dk_O) (v1 : Int32) (v2 : Int32) (r : Int32) (oM_26 : (Nat → Int32)) (oM_17 : (Nat → Int32)) (hf : fX6_livingBehind M v1 v2 = some (r, oM_26, oM_17)) : dk_MuI l yX6_livingBehind wsX6_livingBehind ({ frames := 5, cells := 0, slots := 0, locals := 117 }) D cy [.ref hM, .int v1, .int v2] (wMd cy hM aM sdM M) (wMd cy hM aM sdM (M.1, dk_upA (dk_upA M.2 26 oM_26) 17 oM_17)) sz r := by
  refine Met.ofW (cc := cX6_livingBehind) (maxL := 4) (ret := (some .int)) (by decide) rfl ?_
  intro p e s m args below meth c s₁ B hml hv
  obtain ⟨rfl, hsz, hP, hK, hD0⟩ := hv
  have hx := B.exec
  have hb := B.bytes
  have hr := B.returns
  have hts := atoms_spec (ws := wsX6_livingBehind) B.pre
  have hown : s.vm.findClass RX6 = some m.cls := findClass_of_methodNamed B.named
  have hlocks := B.notSynchronized
  subst hsz
  have hD := hD0.self (sz := s.heap.size)
  generalize hAe : va_A (wMd cy hM aM sdM M) s.heap.size = A at hD ⊢
  have hA : ∀ q : Nat, s.heap.size ≤ q → A q := fun q h => by rw [← hAe]; exact Or.inr h
  have hS : va_S A s.heap s.heap [] := va_S.rf
  have hl := lv_entry ([.ref hM, .int v1, .int v2]) (n := 4) (Nat.le_of_ble_eq_true rfl)
  rw [lg_entry_eq]
  generalize (lg_sl ([.ref hM, .int v1, .int v2]) ++ List.replicate (4 - (lg_sl ([.ref hM, .int v1, .int v2])).length) Slot.unset).toArray = ls at hl ⊢
  have hl : lv_has ls 4 [(0, .ref hM), (1, .int v1), (2, .int v2)] := hl
  have L20 : ∀ (fu20 : Nat) (x2 : Int32) (x3 : Int32) (M_26 : (Nat → Int32)) (M_17 : (Nat → Int32)) (H : Heap) (locs : List Loc) (ls : Array Slot), va_P D vwCl (wMd cy hM aM sdM (M.1, dk_upA (dk_upA M.2 26 M_26) 17 M_17)) H → va_D A (wMd cy hM aM sdM (M.1, dk_upA (dk_upA M.2 26 M_26) 17 M_17)) → va_S A s.heap H locs → lv_has ls 4 [(0, .ref hM), (2, .int x2), (3, .int x3)] → fX6_livingBehind_L20 M fu20 x2 x3 M_26 M_17 = some (r, oM_26, oM_17) → W p l e (headSpec wsX6_livingBehind ({ frames := 5, cells := 0, slots := 0, locals := 117 })).room s m ([.ref hM, .int v1, .int v2]).toArray below meth c H locs 0 0 (MQ below (va_Qi (fun (x : Int32) (_ : Unit) => x = r) (dk_B D (wMd cy hM aM sdM (M.1, dk_upA (dk_upA M.2 26 oM_26) 17 oM_17)) A) A) ([.ref hM, .int v1, .int v2]).toArray s 0 0 A) (F0 m 20 ls []) := by
    intro fu20
    induction fu20 with
    | zero =>
      intro x2 x3 M_26 M_17 H locs ls hP hD hS hl hf
      rw [fX6_livingBehind_L20] at hf
      cases hf
    | succ fu20 ih20 =>
      intro x2 x3 M_26 M_17 H locs ls hP hD hS hl hf
      rw [fX6_livingBehind_L20] at hf
      refine lv_iload_n hx hb dX6_livingBehind_20 rfl (lv_at hl 2 rfl) ?_
      refine lv_iload_n hx hb dX6_livingBehind_21 rfl (lv_at hl 1 rfl) ?_
      refine dk_cge (tgt := 40) hx hb dX6_livingBehind_22 (by decide) hf (fun hf => ?_) (fun hf => ?_)
      · refine lv_aload_n hx hb dX6_livingBehind_40 rfl (lv_at hl 0 rfl) ?_
        refine va_get (D := D) (ci := 6) (v := .ref (aM 17)) (C := RX6) (T := TX6) (N := 28) hx hb hts iX6_livingBehind_X6 hown hK.1 hP 0 rfl rfl 17 (by decide) (hts (.fieldLink RX6 32 "DarkPlaceModel" "trial" "[I") (List.mem_of_getElem? (i := 2) rfl)) (fun _ h9 => h9) rfl dX6_livingBehind_41 ?_
        obtain ⟨r44, k44, hf⟩ := dk_bind hf
        refine dk_ri (va_runS (As := [.ref (aM 17)]) (rest := []) ⟨hx, hb, hml, hown, hts⟩ (kX6_living l D cy (aM 17) M_17 r44 k44) (va_cwS 1 hts gX6_livingBehind_X6_living rfl rfl rfl (by decide +kernel) ⟨Nat.le_of_ble_eq_true rfl, Nat.le_of_ble_eq_true rfl⟩) (dk_preS hK (hP.sub (ws' := wRw cy (aM 17) 21 M_17) [5] rfl)) rfl rfl hl.1 rfl (lv_room (Nat.le_of_ble_eq_true rfl)) dX6_livingBehind_44 ⟨Nat.zero_le _, Nat.zero_le _⟩) ?_
        have e := Option.some.inj hf
        simp only [Prod.mk.injEq] at e
        obtain ⟨e0, e1, e2⟩ := e
        subst e1
        subst e2
        exact W.iret (v := r44) hx hb hr (fun t ht hW => ⟨⟨r44, (), rfl, e0, by rw [ht]; exact hP, hD⟩, hS.F ht⟩) hS.2.2 dX6_livingBehind_47
      · refine lv_aload_n hx hb dX6_livingBehind_25 rfl (lv_at hl 0 rfl) ?_
        refine lv_aload_n hx hb dX6_livingBehind_26 rfl (lv_at hl 0 rfl) ?_
        refine va_get (D := D) (ci := 6) (v := .ref (aM 17)) (C := RX6) (T := TX6) (N := 28) hx hb hts iX6_livingBehind_X6 hown hK.1 hP 0 rfl rfl 17 (by decide) (hts (.fieldLink RX6 32 "DarkPlaceModel" "trial" "[I") (List.mem_of_getElem? (i := 2) rfl)) (fun _ h9 => h9) rfl dX6_livingBehind_27 ?_
        obtain ⟨⟨r30, g30_0, g30_1⟩, k30, hf⟩ := dk_bind hf
        dsimp only at hf
        have hPc := hP.sub (ws' := wMs cy hM aM sdM (M.1, dk_upA (dk_upA M.2 26 M_26) 17 M_17) ++ wRw cy (aM 17) 21 M_17) [0, 1, 2, 3, 5] rfl
        have hDc := hD.sub (ws' := wMs cy hM aM sdM (M.1, dk_upA (dk_upA M.2 26 M_26) 17 M_17) ++ wRw cy (aM 17) 21 M_17) [0, 1, 2, 3, 5] (by decide) rfl
        have hFc := va_free (wc := wMs cy hM aM sdM (M.1, dk_upA (dk_upA M.2 26 M_26) 17 M_17) ++ wRw cy (aM 17) 21 M_17) hD hS hA [0, 1, 2, 3, 5] rfl
        refine va_calli (va_runV (As := [.ref (aM 17)]) (rest := []) ⟨hx, hb, hml, hown, hts⟩ (kX6_roundOn l D cy hM aM sdM (aM 17) H.size (M.1, dk_upA (dk_upA M.2 26 M_26) 17 M_17) M_17 r30 g30_0 g30_1 k30) (cwV 1 hts gX6_livingBehind_X6_roundOn rfl rfl rfl (by decide +kernel) ⟨Nat.le_of_ble_eq_true rfl, Nat.le_of_ble_eq_true rfl⟩) (dk_premV hK hPc hDc (ci := 6) (q0 := 0) rfl rfl) rfl rfl hl.1 rfl (lv_room (Nat.le_of_ble_eq_true rfl)) dX6_livingBehind_30 ⟨Nat.zero_le _, Nat.zero_le _⟩) hS (fun q _ h => hFc q h) hFc (fun xr30 u t H1 locs ht hvm hw hB hz1 hk1 hS => ?_)
        obtain ⟨hP1, hD1⟩ := hB
        rw [ht] at hP1
        rw [hw]
        obtain ⟨hP, hD⟩ := va_join (wr := ([4, 6, 7, 8, 9, 10, 11, 12, 13] : List Nat).filterMap (fun i => (wMd cy hM aM sdM (M.1, dk_upA (dk_upA M.2 26 M_26) 17 M_17))[i]?)) (w1 := wMs cy hM aM sdM (M.1, dk_upA (dk_upA M.2 26 g30_0) 17 g30_1) ++ wRw cy (aM 17) 21 g30_1) hP hD [0, 1, 2, 3, 5] [4, 6, 7, 8, 9, 10, 11, 12, 13] rfl rfl (by decide) (by decide) hk1 hFc hP1 hD1
        generalize H1 = H at hP hS ⊢
        have hP : va_P D vwCl (wMd cy hM aM sdM (M.1, dk_upA (dk_upA M.2 26 g30_0) 17 g30_1)) H := hP.sub [9, 10, 11, 12, 0, 13, 1, 2, 3, 4, 5, 6, 7, 8] rfl
        have hD : va_D A (wMd cy hM aM sdM (M.1, dk_upA (dk_upA M.2 26 g30_0) 17 g30_1)) := hD.sub [9, 10, 11, 12, 0, 13, 1, 2, 3, 4, 5, 6, 7, 8] (by decide) rfl
        refine lv_pop hx hb dX6_livingBehind_33 rfl ?_
        refine lv_iinc (v := x3 + 1) (lv' := [(3, .int (x3 + 1)), (0, .ref hM), (2, .int x2)]) hx hb dX6_livingBehind_34 hl (k := 2) rfl rfl (by decide) rfl (fun ls hl => ?_)
        refine lv_goto (tgt := 20) hx hb dX6_livingBehind_37 (by decide) ?_
        exact ih20 x2 (x3 + 1) g30_0 g30_1 _ _ _ hP hD hS (lv_sub hl [1, 2, 0] rfl) hf
  unfold fX6_livingBehind at hf
  refine lv_aload_n hx hb dX6_livingBehind_0 rfl (lv_at hl 0 rfl) ?_
  refine va_get (D := D) (ci := 6) (v := .ref (aM 16)) (C := RX6) (T := TX6) (N := 28) hx hb hts iX6_livingBehind_X6 hown hK.1 hP 0 rfl rfl 16 (by decide) (hts (.fieldLink RX6 29 "DarkPlaceModel" "page" "[I") (List.mem_of_getElem? (i := 1) rfl)) (fun _ h9 => h9) rfl dX6_livingBehind_1 ?_
  refine lv_aload_n hx hb dX6_livingBehind_4 rfl (lv_at hl 0 rfl) ?_
  refine va_get (D := D) (ci := 6) (v := .ref (aM 17)) (C := RX6) (T := TX6) (N := 28) hx hb hts iX6_livingBehind_X6 hown hK.1 hP 0 rfl rfl 17 (by decide) (hts (.fieldLink RX6 32 "DarkPlaceModel" "trial" "[I") (List.mem_of_getElem? (i := 2) rfl)) (fun _ h9 => h9) rfl dX6_livingBehind_5 ?_
  obtain ⟨g8_0, k8, hf⟩ := dk_bind hf
  have hPc := hP.sub (ws' := wRw cy (aM 16) 21 (M.2 16) ++ wRw cy (aM 17) 21 (M.2 17)) [4, 5] rfl
  have hDc := hD.sub (ws' := wRw cy (aM 16) 21 (M.2 16) ++ wRw cy (aM 17) 21 (M.2 17)) [4, 5] (by decide) rfl
  have hFc := va_free (wc := wRw cy (aM 16) 21 (M.2 16) ++ wRw cy (aM 17) 21 (M.2 17)) hD hS hA [4, 5] rfl
  refine va_callv (va_runS (As := [.ref (aM 16), .ref (aM 17)]) (rest := []) ⟨hx, hb, hml, hown, hts⟩ (kX6_lay l D cy (aM 16) (aM 17) s.heap.size (M.2 16) (M.2 17) g8_0 k8) (va_cwS 2 hts gX6_livingBehind_X6_lay rfl rfl rfl (by decide +kernel) ⟨Nat.le_of_ble_eq_true rfl, Nat.le_of_ble_eq_true rfl⟩) (dk_premS hK hPc hDc) rfl rfl hl.1 rfl (lv_room (Nat.le_of_ble_eq_true rfl)) dX6_livingBehind_8 ⟨Nat.zero_le _, Nat.zero_le _⟩) hS (fun q _ h => hFc q h) hFc (fun u t H1 locs ht hvm hw hB hz1 hk1 hS => ?_)
  obtain ⟨hP1, hD1⟩ := hB
  rw [ht] at hP1
  obtain ⟨hP, hD⟩ := va_join (wr := ([0, 1, 2, 3, 6, 7, 8, 9, 10, 11, 12, 13] : List Nat).filterMap (fun i => (wMd cy hM aM sdM M)[i]?)) (w1 := wRw cy (aM 16) 21 (M.2 16) ++ wRw cy (aM 17) 21 g8_0) hP hD [4, 5] [0, 1, 2, 3, 6, 7, 8, 9, 10, 11, 12, 13] rfl rfl (by decide) (by decide) hk1 hFc hP1 hD1
  generalize H1 = H at hP hS ⊢
  have hP : va_P D vwCl (wMd cy hM aM sdM (M.1, dk_upA M.2 17 g8_0)) H := hP.sub [0, 1, 2, 3, 12, 13, 4, 5, 6, 7, 8, 9, 10, 11] rfl
  have hD : va_D A (wMd cy hM aM sdM (M.1, dk_upA M.2 17 g8_0)) := hD.sub [0, 1, 2, 3, 12, 13, 4, 5, 6, 7, 8, 9, 10, 11] (by decide) rfl
  refine lv_aload_n hx hb dX6_livingBehind_11 rfl (lv_at hl 0 rfl) ?_
  refine va_get (D := D) (ci := 6) (v := .ref (aM 17)) (C := RX6) (T := TX6) (N := 28) hx hb hts iX6_livingBehind_X6 hown hK.1 hP 0 rfl rfl 17 (by decide) (hts (.fieldLink RX6 32 "DarkPlaceModel" "trial" "[I") (List.mem_of_getElem? (i := 2) rfl)) (fun _ h9 => h9) rfl dX6_livingBehind_12 ?_
  refine lv_iconst (v := 0) hx hb dX6_livingBehind_15 (by decide) ?_
  refine lv_iload_n hx hb dX6_livingBehind_16 rfl (lv_at hl 1 rfl) ?_
  refine dk_iast hx hb hK.1 hP hD hS 5 0 rfl rfl hf dX6_livingBehind_17 (fun f17 H locs hP hD hS hf => ?_)
  have hP : va_P D vwCl (wMd cy hM aM sdM (M.1, dk_upA M.2 17 f17)) H := hP
  have hD : va_D A (wMd cy hM aM sdM (M.1, dk_upA M.2 17 f17)) := hD
  refine lv_iconst (v := 0) hx hb dX6_livingBehind_18 (by decide) ?_
  refine lv_istore_n (lv' := [(3, .int 0), (0, .ref hM), (1, .int v1), (2, .int v2)]) hx hb dX6_livingBehind_19 rfl hl (by decide) rfl (fun ls hl => ?_)
  exact L20 1000 v2 0 (M.2 26) f17 _ _ _ hP hD hS (lv_sub hl [1, 3, 0] rfl) hf
theorem iX6_which_X6 : ∀ w ∈ wsX60, w ∈ wsX6_which := fun _ h => List.mem_cons_of_mem _ (List.mem_append_right _ h)
set_option maxHeartbeats 4000000 in
set_option maxRecDepth 100000 in
theorem kX6_which (l : Launch) (D : va_G) (cy : Nat → ClassId) (hM : Nat) (aM : Nat → Nat) (sdM : Int64) (sz : Nat) (M : dk_O)  (r : Int32) (oM_I : (Nat → Int32)) (oM_26 : (Nat → Int32)) (oM_17 : (Nat → Int32)) (hf : fX6_which M = some (r, oM_I, oM_26, oM_17)) : dk_MuI l yX6_which wsX6_which ({ frames := 6, cells := 0, slots := 0, locals := 140 }) D cy [.ref hM] (wMd cy hM aM sdM M) (wMd cy hM aM sdM (oM_I, dk_upA (dk_upA M.2 26 oM_26) 17 oM_17)) sz r := by
  refine Met.ofW (cc := cX6_which) (maxL := 5) (ret := (some .int)) (by decide) rfl ?_
  intro p e s m args below meth c s₁ B hml hv
  obtain ⟨rfl, hsz, hP, hK, hD0⟩ := hv
  have hx := B.exec
  have hb := B.bytes
  have hr := B.returns
  have hts := atoms_spec (ws := wsX6_which) B.pre
  have hown : s.vm.findClass RX6 = some m.cls := findClass_of_methodNamed B.named
  have hlocks := B.notSynchronized
  subst hsz
  have hD := hD0.self (sz := s.heap.size)
  generalize hAe : va_A (wMd cy hM aM sdM M) s.heap.size = A at hD ⊢
  have hA : ∀ q : Nat, s.heap.size ≤ q → A q := fun q h => by rw [← hAe]; exact Or.inr h
  have hS : va_S A s.heap s.heap [] := va_S.rf
  have hl := lv_entry ([.ref hM]) (n := 5) (Nat.le_of_ble_eq_true rfl)
  rw [lg_entry_eq]
  generalize (lg_sl ([.ref hM]) ++ List.replicate (5 - (lg_sl ([.ref hM])).length) Slot.unset).toArray = ls at hl ⊢
  have hl : lv_has ls 5 [(0, .ref hM)] := hl
  have L9 : ∀ (fu9 : Nat) (x1 : Int32) (x2 : Int32) (M_I : (Nat → Int32)) (M_26 : (Nat → Int32)) (M_17 : (Nat → Int32)) (H : Heap) (locs : List Loc) (ls : Array Slot), va_P D vwCl (wMd cy hM aM sdM (M_I, dk_upA (dk_upA M.2 26 M_26) 17 M_17)) H → va_D A (wMd cy hM aM sdM (M_I, dk_upA (dk_upA M.2 26 M_26) 17 M_17)) → va_S A s.heap H locs → lv_has ls 5 [(0, .ref hM), (1, .int x1), (2, .int x2)] → fX6_which_L9 M fu9 x1 x2 M_I M_26 M_17 = some (r, oM_I, oM_26, oM_17) → W p l e (headSpec wsX6_which ({ frames := 6, cells := 0, slots := 0, locals := 140 })).room s m ([.ref hM]).toArray below meth c H locs 0 0 (MQ below (va_Qi (fun (x : Int32) (_ : Unit) => x = r) (dk_B D (wMd cy hM aM sdM (oM_I, dk_upA (dk_upA M.2 26 oM_26) 17 oM_17)) A) A) ([.ref hM]).toArray s 0 0 A) (F0 m 9 ls []) := by
    intro fu9
    induction fu9 with
    | zero =>
      intro x1 x2 M_I M_26 M_17 H locs ls hP hD hS hl hf
      rw [fX6_which_L9] at hf
      cases hf
    | succ fu9 ih9 =>
      intro x1 x2 M_I M_26 M_17 H locs ls hP hD hS hl hf
      rw [fX6_which_L9] at hf
      have L77 : ∀ (x1 : Int32) (x2 : Int32) (x3 : Int32) (M_I : (Nat → Int32)) (M_26 : (Nat → Int32)) (M_17 : (Nat → Int32)) (H : Heap) (locs : List Loc) (ls : Array Slot), va_P D vwCl (wMd cy hM aM sdM (M_I, dk_upA (dk_upA M.2 26 M_26) 17 M_17)) H → va_D A (wMd cy hM aM sdM (M_I, dk_upA (dk_upA M.2 26 M_26) 17 M_17)) → va_S A s.heap H locs → lv_has ls 5 [(0, .ref hM), (1, .int x1), (2, .int x2), (3, .int x3)] → fX6_which_L77 M (fun z0 z1 z2 z3 z4 => fX6_which_L9 M fu9 z0 z1 z2 z3 z4) x1 x2 x3 M_I M_26 M_17 = some (r, oM_I, oM_26, oM_17) → W p l e (headSpec wsX6_which ({ frames := 6, cells := 0, slots := 0, locals := 140 })).room s m ([.ref hM]).toArray below meth c H locs 0 0 (MQ below (va_Qi (fun (x : Int32) (_ : Unit) => x = r) (dk_B D (wMd cy hM aM sdM (oM_I, dk_upA (dk_upA M.2 26 oM_26) 17 oM_17)) A) A) ([.ref hM]).toArray s 0 0 A) (F0 m 77 ls []) := by
        intro x1 x2 x3 M_I M_26 M_17 H locs ls hP hD hS hl hf
        unfold fX6_which_L77 at hf
        refine lv_iload_n hx hb dX6_which_77 rfl (lv_at hl 1 rfl) ?_
        refine lv_iload_n hx hb dX6_which_78 rfl (lv_at hl 3 rfl) ?_
        refine dk_ieq (tgt := 88) hx hb dX6_which_79 (by decide) hf (fun hf => ?_) (fun hf => ?_)
        · refine lv_iconst (v := 0) hx hb dX6_which_88 (by decide) ?_
          refine lv_ior hx hb dX6_which_89 ?_
          refine lv_istore_n (lv' := [(1, .int (x1 ||| 0)), (0, .ref hM), (2, .int x2), (3, .int x3)]) hx hb dX6_which_90 rfl hl (by decide) rfl (fun ls hl => ?_)
          refine lv_iinc (v := x2 + 1) (lv' := [(2, .int (x2 + 1)), (1, .int (x1 ||| 0)), (0, .ref hM), (3, .int x3)]) hx hb dX6_which_91 hl (k := 2) rfl rfl (by decide) rfl (fun ls hl => ?_)
          refine lv_goto (tgt := 9) hx hb dX6_which_94 (by decide) ?_
          exact ih9 (x1 ||| 0) (x2 + 1) M_I M_26 M_17 _ _ _ hP hD hS (lv_sub hl [2, 1, 0] rfl) hf
        · refine lv_iconst (v := 1) hx hb dX6_which_82 (by decide) ?_
          refine lv_iload_n hx hb dX6_which_83 rfl (lv_at hl 2 rfl) ?_
          refine lv_ishl hx hb dX6_which_84 ?_
          refine lv_goto (tgt := 89) hx hb dX6_which_85 (by decide) ?_
          refine lv_ior hx hb dX6_which_89 ?_
          refine lv_istore_n (lv' := [(1, .int (x1 ||| ((1 : Int32) <<< (x2 &&& 31)))), (0, .ref hM), (2, .int x2), (3, .int x3)]) hx hb dX6_which_90 rfl hl (by decide) rfl (fun ls hl => ?_)
          refine lv_iinc (v := x2 + 1) (lv' := [(2, .int (x2 + 1)), (1, .int (x1 ||| ((1 : Int32) <<< (x2 &&& 31)))), (0, .ref hM), (3, .int x3)]) hx hb dX6_which_91 hl (k := 2) rfl rfl (by decide) rfl (fun ls hl => ?_)
          refine lv_goto (tgt := 9) hx hb dX6_which_94 (by decide) ?_
          exact ih9 (x1 ||| ((1 : Int32) <<< (x2 &&& 31))) (x2 + 1) M_I M_26 M_17 _ _ _ hP hD hS (lv_sub hl [2, 1, 0] rfl) hf
      have L30 : ∀ (fu30 : Nat) (x1 : Int32) (x2 : Int32) (x3 : Int32) (x4 : Int32) (M_I : (Nat → Int32)) (M_26 : (Nat → Int32)) (M_17 : (Nat → Int32)) (H : Heap) (locs : List Loc) (ls : Array Slot), va_P D vwCl (wMd cy hM aM sdM (M_I, dk_upA (dk_upA M.2 26 M_26) 17 M_17)) H → va_D A (wMd cy hM aM sdM (M_I, dk_upA (dk_upA M.2 26 M_26) 17 M_17)) → va_S A s.heap H locs → lv_has ls 5 [(0, .ref hM), (1, .int x1), (2, .int x2), (3, .int x3), (4, .int x4)] → fX6_which_L30 M (fun z0 z1 z2 z3 z4 => fX6_which_L9 M fu9 z0 z1 z2 z3 z4) fu30 x1 x2 x3 x4 M_I M_26 M_17 = some (r, oM_I, oM_26, oM_17) → W p l e (headSpec wsX6_which ({ frames := 6, cells := 0, slots := 0, locals := 140 })).room s m ([.ref hM]).toArray below meth c H locs 0 0 (MQ below (va_Qi (fun (x : Int32) (_ : Unit) => x = r) (dk_B D (wMd cy hM aM sdM (oM_I, dk_upA (dk_upA M.2 26 oM_26) 17 oM_17)) A) A) ([.ref hM]).toArray s 0 0 A) (F0 m 30 ls []) := by
        intro fu30
        induction fu30 with
        | zero =>
          intro x1 x2 x3 x4 M_I M_26 M_17 H locs ls hP hD hS hl hf
          rw [fX6_which_L30] at hf
          cases hf
        | succ fu30 ih30 =>
          intro x1 x2 x3 x4 M_I M_26 M_17 H locs ls hP hD hS hl hf
          rw [fX6_which_L30] at hf
          refine lv_iload hx hb dX6_which_30 (lv_at hl 4 rfl) ?_
          refine lv_aload_n hx hb dX6_which_32 rfl (lv_at hl 0 rfl) ?_
          refine va_get (D := D) (ci := 6) (v := .int (M_I 22)) (C := RX6) (T := TX6) (N := 28) hx hb hts iX6_which_X6 hown hK.1 hP 0 rfl rfl 22 (by decide) (hts (.fieldLink RX6 224 "DarkPlaceModel" "seen" "I") (List.mem_of_getElem? (i := 4) rfl)) (fun _ h9 => h9) rfl dX6_which_33 ?_
          refine dk_cge (tgt := 77) hx hb dX6_which_36 (by decide) hf (fun hf => ?_) (fun hf => ?_)
          · exact L77 x1 x2 x3 M_I M_26 M_17 _ _ _ hP hD hS (lv_sub hl [0, 1, 2, 3] rfl) hf
          · refine lv_iload_n hx hb dX6_which_39 rfl (lv_at hl 3 rfl) ?_
            refine dk_ieq (tgt := 77) hx hb dX6_which_40 (by decide) hf (fun hf => ?_) (fun hf => ?_)
            · exact L77 x1 x2 x3 M_I M_26 M_17 _ _ _ hP hD hS (lv_sub hl [0, 1, 2, 3] rfl) hf
            · refine lv_aload_n hx hb dX6_which_43 rfl (lv_at hl 0 rfl) ?_
              refine lv_iload_n hx hb dX6_which_44 rfl (lv_at hl 2 rfl) ?_
              refine lv_aload_n hx hb dX6_which_45 rfl (lv_at hl 0 rfl) ?_
              refine va_get (D := D) (ci := 6) (v := .ref (aM 23)) (C := RX6) (T := TX6) (N := 28) hx hb hts iX6_which_X6 hown hK.1 hP 0 rfl rfl 23 (by decide) (hts (.fieldLink RX6 45 "DarkPlaceModel" "seenRounds" "[I") (List.mem_of_getElem? (i := 5) rfl)) (fun _ h9 => h9) rfl dX6_which_46 ?_
              refine lv_iload hx hb dX6_which_49 (lv_at hl 4 rfl) ?_
              refine dk_iald hx hb hK.1 hP 12 0 rfl rfl hf dX6_which_51 (fun d51 hf => ?_)
              obtain ⟨⟨r52, g52_0, g52_1⟩, k52, hf⟩ := dk_bind hf
              dsimp only at hf
              have hPc := hP.sub (ws' := wMd cy hM aM sdM (M_I, dk_upA (dk_upA M.2 26 M_26) 17 M_17)) [0, 1, 2, 3, 4, 5, 6, 7, 8, 9, 10, 11, 12, 13] rfl
              have hDc := hD.sub (ws' := wMd cy hM aM sdM (M_I, dk_upA (dk_upA M.2 26 M_26) 17 M_17)) [0, 1, 2, 3, 4, 5, 6, 7, 8, 9, 10, 11, 12, 13] (by decide) rfl
              have hFc := va_free (wc := wMd cy hM aM sdM (M_I, dk_upA (dk_upA M.2 26 M_26) 17 M_17)) hD hS hA [0, 1, 2, 3, 4, 5, 6, 7, 8, 9, 10, 11, 12, 13] rfl
              refine va_calli (va_runV (As := [.int x2, .int d51]) (rest := []) ⟨hx, hb, hml, hown, hts⟩ (kX6_livingBehind l D cy hM aM sdM H.size (M_I, dk_upA (dk_upA M.2 26 M_26) 17 M_17) x2 d51 r52 g52_0 g52_1 k52) (cwV 2 hts gX6_which_X6_livingBehind rfl rfl rfl (by decide +kernel) ⟨Nat.le_of_ble_eq_true rfl, Nat.le_of_ble_eq_true rfl⟩) (dk_premV hK hPc hDc (ci := 6) (q0 := 0) rfl rfl) rfl rfl hl.1 rfl (lv_room (Nat.le_of_ble_eq_true rfl)) dX6_which_52 ⟨Nat.zero_le _, Nat.zero_le _⟩) hS (fun q _ h => hFc q h) hFc (fun xr52 u t H1 locs ht hvm hw hB hz1 hk1 hS => ?_)
              obtain ⟨hP1, hD1⟩ := hB
              rw [ht] at hP1
              rw [hw]
              obtain ⟨hP, hD⟩ := va_join (wr := ([] : List Nat).filterMap (fun i => (wMd cy hM aM sdM (M_I, dk_upA (dk_upA M.2 26 M_26) 17 M_17))[i]?)) (w1 := wMd cy hM aM sdM (M_I, dk_upA (dk_upA M.2 26 g52_0) 17 g52_1)) hP hD [0, 1, 2, 3, 4, 5, 6, 7, 8, 9, 10, 11, 12, 13] [] rfl rfl (by decide) (by decide) hk1 hFc hP1 hD1
              generalize H1 = H at hP hS ⊢
              have hP : va_P D vwCl (wMd cy hM aM sdM (M_I, dk_upA (dk_upA M.2 26 g52_0) 17 g52_1)) H := hP.sub [0, 1, 2, 3, 4, 5, 6, 7, 8, 9, 10, 11, 12, 13] rfl
              have hD : va_D A (wMd cy hM aM sdM (M_I, dk_upA (dk_upA M.2 26 g52_0) 17 g52_1)) := hD.sub [0, 1, 2, 3, 4, 5, 6, 7, 8, 9, 10, 11, 12, 13] (by decide) rfl
              refine lv_aload_n hx hb dX6_which_55 rfl (lv_at hl 0 rfl) ?_
              refine va_get (D := D) (ci := 6) (v := .ref (aM 24)) (C := RX6) (T := TX6) (N := 28) hx hb hts iX6_which_X6 hown hK.1 hP 0 rfl rfl 24 (by decide) (hts (.fieldLink RX6 48 "DarkPlaceModel" "seenLives" "[I") (List.mem_of_getElem? (i := 6) rfl)) (fun _ h9 => h9) rfl dX6_which_56 ?_
              refine lv_iload hx hb dX6_which_59 (lv_at hl 4 rfl) ?_
              refine dk_iald hx hb hK.1 hP 13 0 rfl rfl hf dX6_which_61 (fun d61 hf => ?_)
              refine dk_cne (tgt := 69) hx hb dX6_which_62 (by decide) hf (fun hf => ?_) (fun hf => ?_)
              · refine lv_iconst (v := 0) hx hb dX6_which_69 (by decide) ?_
                refine lv_istore_n (lv' := [(3, .int 0), (0, .ref hM), (1, .int x1), (2, .int x2), (4, .int x4)]) hx hb dX6_which_70 rfl hl (by decide) rfl (fun ls hl => ?_)
                refine lv_iinc (v := x4 + 1) (lv' := [(4, .int (x4 + 1)), (3, .int 0), (0, .ref hM), (1, .int x1), (2, .int x2)]) hx hb dX6_which_71 hl (k := 4) rfl rfl (by decide) rfl (fun ls hl => ?_)
                refine lv_goto (tgt := 30) hx hb dX6_which_74 (by decide) ?_
                exact ih30 x1 x2 0 (x4 + 1) M_I g52_0 g52_1 _ _ _ hP hD hS (lv_sub hl [2, 3, 4, 1, 0] rfl) hf
              · refine lv_iconst (v := 1) hx hb dX6_which_65 (by decide) ?_
                refine lv_goto (tgt := 70) hx hb dX6_which_66 (by decide) ?_
                refine lv_istore_n (lv' := [(3, .int 1), (0, .ref hM), (1, .int x1), (2, .int x2), (4, .int x4)]) hx hb dX6_which_70 rfl hl (by decide) rfl (fun ls hl => ?_)
                refine lv_iinc (v := x4 + 1) (lv' := [(4, .int (x4 + 1)), (3, .int 1), (0, .ref hM), (1, .int x1), (2, .int x2)]) hx hb dX6_which_71 hl (k := 4) rfl rfl (by decide) rfl (fun ls hl => ?_)
                refine lv_goto (tgt := 30) hx hb dX6_which_74 (by decide) ?_
                exact ih30 x1 x2 1 (x4 + 1) M_I g52_0 g52_1 _ _ _ hP hD hS (lv_sub hl [2, 3, 4, 1, 0] rfl) hf
      refine lv_iload_n hx hb dX6_which_9 rfl (lv_at hl 2 rfl) ?_
      refine lv_aload_n hx hb dX6_which_10 rfl (lv_at hl 0 rfl) ?_
      refine va_get (D := D) (ci := 6) (v := .int (M_I 4)) (C := RX6) (T := TX6) (N := 28) hx hb hts iX6_which_X6 hown hK.1 hP 0 rfl rfl 4 (by decide) (hts (.fieldLink RX6 13 "DarkPlaceModel" "places" "I") (List.mem_of_getElem? (i := 2) rfl)) (fun _ h9 => h9) rfl dX6_which_11 ?_
      refine dk_cge (tgt := 97) hx hb dX6_which_14 (by decide) hf (fun hf => ?_) (fun hf => ?_)
      · refine lv_iload_n hx hb dX6_which_97 rfl (lv_at hl 1 rfl) ?_
        have e := Option.some.inj hf
        simp only [Prod.mk.injEq] at e
        obtain ⟨e0, e1, e2, e3⟩ := e
        subst e1
        subst e2
        subst e3
        exact W.iret (v := x1) hx hb hr (fun t ht hW => ⟨⟨x1, (), rfl, e0, by rw [ht]; exact hP, hD⟩, hS.F ht⟩) hS.2.2 dX6_which_98
      · refine lv_aload_n hx hb dX6_which_17 rfl (lv_at hl 0 rfl) ?_
        refine lv_aload_n hx hb dX6_which_18 rfl (lv_at hl 0 rfl) ?_
        refine va_get (D := D) (ci := 6) (v := .ref (aM 16)) (C := RX6) (T := TX6) (N := 28) hx hb hts iX6_which_X6 hown hK.1 hP 0 rfl rfl 16 (by decide) (hts (.fieldLink RX6 29 "DarkPlaceModel" "page" "[I") (List.mem_of_getElem? (i := 3) rfl)) (fun _ h9 => h9) rfl dX6_which_19 ?_
        refine lv_iload_n hx hb dX6_which_22 rfl (lv_at hl 2 rfl) ?_
        obtain ⟨r23, k23, hf⟩ := dk_bind hf
        refine dk_ri (va_runV (As := [.ref (aM 16), .int x2]) (rest := []) ⟨hx, hb, hml, hown, hts⟩ (kX6_isFree l D cy hM aM sdM (aM 16) (M_I, dk_upA (dk_upA M.2 26 M_26) 17 M_17) (M.2 16) x2 r23 k23) (cwV 2 hts gX6_which_X6_isFree rfl rfl rfl (by decide +kernel) ⟨Nat.le_of_ble_eq_true rfl, Nat.le_of_ble_eq_true rfl⟩) (dk_preV hK (hP.sub (ws' := wMs cy hM aM sdM (M_I, dk_upA (dk_upA M.2 26 M_26) 17 M_17) ++ wRw cy (aM 16) 21 (M.2 16)) [0, 1, 2, 3, 4] rfl) (ci := 6) (q0 := 0) rfl rfl) rfl rfl hl.1 rfl (lv_room (Nat.le_of_ble_eq_true rfl)) dX6_which_23 ⟨Nat.zero_le _, Nat.zero_le _⟩) ?_
        refine lv_istore_n (lv' := [(3, .int r23), (0, .ref hM), (1, .int x1), (2, .int x2)]) hx hb dX6_which_26 rfl hl (by decide) rfl (fun ls hl => ?_)
        refine lv_iconst (v := 0) hx hb dX6_which_27 (by decide) ?_
        refine lv_istore (lv' := [(4, .int 0), (3, .int r23), (0, .ref hM), (1, .int x1), (2, .int x2)]) hx hb dX6_which_28 hl (by decide) rfl (fun ls hl => ?_)
        exact L30 1000 x1 x2 r23 0 M_I M_26 M_17 _ _ _ hP hD hS (lv_sub hl [2, 3, 4, 1, 0] rfl) hf
  unfold fX6_which at hf
  refine lv_aload_n hx hb dX6_which_0 rfl (lv_at hl 0 rfl) ?_
  refine lv_iconst (v := 0) hx hb dX6_which_1 (by decide) ?_
  refine va_put (D := D) (ci := 6) (v := .int 0) (ty := .int) (C := RX6) (T := TX6) (N := 28) hx hb hts iX6_which_X6 tyX6 tyX6_ok nmX6 hown hK.1 hP hD hS 0 rfl rfl 0 (by decide) (hts (.fieldLink RX6 61 "DarkPlaceModel" "thrown" "I") (List.mem_of_getElem? (i := 1) rfl)) (fun _ h9 => h9) rfl (by decide +kernel) rfl rfl (Nat.le_of_ble_eq_true rfl) dX6_which_2 (fun H locs hP hD hS => ?_)
  have hP : va_P D vwCl (wMd cy hM aM sdM (upd M.1 0 0, M.2)) H := hP
  have hD : va_D A (wMd cy hM aM sdM (upd M.1 0 0, M.2)) := hD
  refine lv_iconst (v := 0) hx hb dX6_which_5 (by decide) ?_
  refine lv_istore_n (lv' := [(1, .int 0), (0, .ref hM)]) hx hb dX6_which_6 rfl hl (by decide) rfl (fun ls hl => ?_)
  refine lv_iconst (v := 0) hx hb dX6_which_7 (by decide) ?_
  refine lv_istore_n (lv' := [(2, .int 0), (1, .int 0), (0, .ref hM)]) hx hb dX6_which_8 rfl hl (by decide) rfl (fun ls hl => ?_)
  exact L9 1000 0 0 (upd M.1 0 0) (M.2 26) (M.2 17) _ _ _ hP hD hS (lv_sub hl [2, 1, 0] rfl) hf
set_option maxHeartbeats 4000000 in
set_option maxRecDepth 100000 in
theorem kX6_divisor (l : Launch) (D : va_G) (cy : Nat → ClassId)   (v0 : Int32) (v1 : Int32) (r : Int32) (hf : fX6_divisor v0 v1 = some r) : dk_RdI l yX6_divisor wsX6_divisor ({ frames := 0, cells := 0, slots := 0, locals := 0 }) D cy [.int v0, .int v1] (([] : va_W)) r := by
  refine Met.ofW (cc := cX6_divisor) (maxL := 5) (ret := (some .int)) (by decide) rfl ?_
  intro p e s m args below meth c s₁ B hml hv
  obtain ⟨rfl, hP, hK⟩ := hv
  have hx := B.exec
  have hb := B.bytes
  have hr := B.returns
  have hts := atoms_spec (ws := wsX6_divisor) B.pre
  have hown : s.vm.findClass RX6 = some m.cls := findClass_of_methodNamed B.named
  have hlocks := B.notSynchronized
  have hl := lv_entry ([.int v0, .int v1]) (n := 5) (Nat.le_of_ble_eq_true rfl)
  rw [lg_entry_eq]
  generalize (lg_sl ([.int v0, .int v1]) ++ List.replicate (5 - (lg_sl ([.int v0, .int v1])).length) Slot.unset).toArray = ls at hl ⊢
  have hl : lv_has ls 5 [(0, .int v0), (1, .int v1)] := hl
  have L13 : ∀ (fu13 : Nat) (x2 : Int32) (x3 : Int32) (ls : Array Slot), lv_has ls 5 [(2, .int x2), (3, .int x3)] → fX6_divisor_L13 fu13 x2 x3 = some r → W p l e (headSpec wsX6_divisor ({ frames := 0, cells := 0, slots := 0, locals := 0 })).room s m ([.int v0, .int v1]).toArray below meth c s.heap [] 0 0 (MQ below (vp_Si (fun x => x = r)) ([.int v0, .int v1]).toArray s 0 0 (fun _ => False)) (F0 m 13 ls []) := by
    intro fu13
    induction fu13 with
    | zero =>
      intro x2 x3 ls hl hf
      rw [fX6_divisor_L13] at hf
      cases hf
    | succ fu13 ih13 =>
      intro x2 x3 ls hl hf
      rw [fX6_divisor_L13] at hf
      refine lv_iload_n hx hb dX6_divisor_13 rfl (lv_at hl 1 rfl) ?_
      refine dk_ieq (tgt := 30) hx hb dX6_divisor_14 (by decide) hf (fun hf => ?_) (fun hf => ?_)
      · refine lv_iload_n hx hb dX6_divisor_30 rfl (lv_at hl 0 rfl) ?_
        exact W.iret (v := x2) hx hb hr (fun t ht hW => ⟨x2, rfl, Option.some.inj hf, ht⟩) t_nil dX6_divisor_31
      · refine lv_iload_n hx hb dX6_divisor_17 rfl (lv_at hl 0 rfl) ?_
        refine lv_iload_n hx hb dX6_divisor_18 rfl (lv_at hl 1 rfl) ?_
        obtain ⟨q19, hf⟩ := dk_guard hf
        refine lv_irem hx hb dX6_divisor_19 q19 ?_
        refine lv_istore (lv' := [(4, .int (x2 - x2 / x3 * x3)), (2, .int x2), (3, .int x3)]) hx hb dX6_divisor_20 hl (by decide) rfl (fun ls hl => ?_)
        refine lv_iload_n hx hb dX6_divisor_22 rfl (lv_at hl 2 rfl) ?_
        refine lv_istore_n (lv' := [(2, .int x3), (4, .int (x2 - x2 / x3 * x3)), (3, .int x3)]) hx hb dX6_divisor_23 rfl hl (by decide) rfl (fun ls hl => ?_)
        refine lv_iload hx hb dX6_divisor_24 (lv_at hl 1 rfl) ?_
        refine lv_istore_n (lv' := [(3, .int (x2 - x2 / x3 * x3)), (2, .int x3), (4, .int (x2 - x2 / x3 * x3))]) hx hb dX6_divisor_26 rfl hl (by decide) rfl (fun ls hl => ?_)
        refine lv_goto (tgt := 13) hx hb dX6_divisor_27 (by decide) ?_
        exact ih13 x3 (x2 - x2 / x3 * x3) _ (lv_sub hl [1, 0] rfl) hf
  unfold fX6_divisor at hf
  refine lv_iload_n hx hb dX6_divisor_0 rfl (lv_at hl 0 rfl) ?_
  refine dk_ige (tgt := 9) hx hb dX6_divisor_1 (by decide) hf (fun hf => ?_) (fun hf => ?_)
  · refine lv_iload_n hx hb dX6_divisor_9 rfl (lv_at hl 0 rfl) ?_
    refine lv_istore_n (lv' := [(2, .int v0), (0, .int v0), (1, .int v1)]) hx hb dX6_divisor_10 rfl hl (by decide) rfl (fun ls hl => ?_)
    refine lv_iload_n hx hb dX6_divisor_11 rfl (lv_at hl 2 rfl) ?_
    refine lv_istore_n (lv' := [(3, .int v1), (2, .int v0), (0, .int v0), (1, .int v1)]) hx hb dX6_divisor_12 rfl hl (by decide) rfl (fun ls hl => ?_)
    exact L13 1000 v0 v1 _ (lv_sub hl [1, 0] rfl) hf
  · refine lv_iload_n hx hb dX6_divisor_4 rfl (lv_at hl 0 rfl) ?_
    refine lv_ineg hx hb dX6_divisor_5 ?_
    refine lv_goto (tgt := 10) hx hb dX6_divisor_6 (by decide) ?_
    refine lv_istore_n (lv' := [(2, .int (-v0)), (0, .int v0), (1, .int v1)]) hx hb dX6_divisor_10 rfl hl (by decide) rfl (fun ls hl => ?_)
    refine lv_iload_n hx hb dX6_divisor_11 rfl (lv_at hl 2 rfl) ?_
    refine lv_istore_n (lv' := [(3, .int v1), (2, .int (-v0)), (0, .int v0), (1, .int v1)]) hx hb dX6_divisor_12 rfl hl (by decide) rfl (fun ls hl => ?_)
    exact L13 1000 (-v0) v1 _ (lv_sub hl [1, 0] rfl) hf
set_option maxHeartbeats 4000000 in
set_option maxRecDepth 100000 in
theorem kX6_fraction (l : Launch) (D : va_G) (cy : Nat → ClassId)   (v0 : Int32) (v1 : Int32) (v2 : Int32) (r : Int32) (hf : fX6_fraction v0 v1 v2 = some r) : dk_RdI l yX6_fraction wsX6_fraction ({ frames := 1, cells := 0, slots := 0, locals := 24 }) D cy [.int v0, .int v1, .int v2] (([] : va_W)) r := by
  refine Met.ofW (cc := cX6_fraction) (maxL := 4) (ret := (some .int)) (by decide) rfl ?_
  intro p e s m args below meth c s₁ B hml hv
  obtain ⟨rfl, hP, hK⟩ := hv
  have hx := B.exec
  have hb := B.bytes
  have hr := B.returns
  have hts := atoms_spec (ws := wsX6_fraction) B.pre
  have hown : s.vm.findClass RX6 = some m.cls := findClass_of_methodNamed B.named
  have hlocks := B.notSynchronized
  have hl := lv_entry ([.int v0, .int v1, .int v2]) (n := 4) (Nat.le_of_ble_eq_true rfl)
  rw [lg_entry_eq]
  generalize (lg_sl ([.int v0, .int v1, .int v2]) ++ List.replicate (4 - (lg_sl ([.int v0, .int v1, .int v2])).length) Slot.unset).toArray = ls at hl ⊢
  have hl : lv_has ls 4 [(0, .int v0), (1, .int v1), (2, .int v2)] := hl
  unfold fX6_fraction at hf
  refine lv_iload_n hx hb dX6_fraction_0 rfl (lv_at hl 0 rfl) ?_
  refine lv_iload_n hx hb dX6_fraction_1 rfl (lv_at hl 1 rfl) ?_
  obtain ⟨r2, k2, hf⟩ := dk_bind hf
  refine dk_ri (va_runS (As := [.int v0, .int v1]) (rest := []) ⟨hx, hb, hml, hown, hts⟩ (kX6_divisor l D cy v0 v1 r2 k2) (va_cwS 2 hts gX6_fraction_X6_divisor rfl rfl rfl (by decide +kernel) ⟨Nat.le_of_ble_eq_true rfl, Nat.le_of_ble_eq_true rfl⟩) (dk_preS hK (hP.sub (ws' := []) [] rfl)) rfl rfl hl.1 rfl (lv_room (Nat.le_of_ble_eq_true rfl)) dX6_fraction_2 ⟨Nat.zero_le _, Nat.zero_le _⟩) ?_
  refine lv_istore_n (lv' := [(3, .int r2), (0, .int v0), (1, .int v1), (2, .int v2)]) hx hb dX6_fraction_5 rfl hl (by decide) rfl (fun ls hl => ?_)
  refine lv_iload_n hx hb dX6_fraction_6 rfl (lv_at hl 3 rfl) ?_
  refine dk_ieq (tgt := 16) hx hb dX6_fraction_7 (by decide) hf (fun hf => ?_) (fun hf => ?_)
  · refine lv_iload_n hx hb dX6_fraction_16 rfl (lv_at hl 2 rfl) ?_
    refine lv_iload_n hx hb dX6_fraction_17 rfl (lv_at hl 0 rfl) ?_
    obtain ⟨q18, hf⟩ := dk_guard hf
    refine lv_idiv hx hb dX6_fraction_18 q18 ?_
    exact W.iret (v := v1 / r2) hx hb hr (fun t ht hW => ⟨v1 / r2, rfl, Option.some.inj hf, ht⟩) t_nil dX6_fraction_19
  · refine lv_iload_n hx hb dX6_fraction_10 rfl (lv_at hl 1 rfl) ?_
    refine lv_iload_n hx hb dX6_fraction_11 rfl (lv_at hl 0 rfl) ?_
    obtain ⟨q12, hf⟩ := dk_guard hf
    refine lv_idiv hx hb dX6_fraction_12 q12 ?_
    refine lv_goto (tgt := 19) hx hb dX6_fraction_13 (by decide) ?_
    exact W.iret (v := v0 / r2) hx hb hr (fun t ht hW => ⟨v0 / r2, rfl, Option.some.inj hf, ht⟩) t_nil dX6_fraction_19
set_option maxHeartbeats 4000000 in
set_option maxRecDepth 100000 in
theorem kX6_factorial (l : Launch) (D : va_G) (cy : Nat → ClassId)   (v0 : Int32) (r : Int32) (hf : fX6_factorial v0 = some r) : dk_RdI l yX6_factorial wsX6_factorial ({ frames := 0, cells := 0, slots := 0, locals := 0 }) D cy [.int v0] (([] : va_W)) r := by
  refine Met.ofW (cc := cX6_factorial) (maxL := 3) (ret := (some .int)) (by decide) rfl ?_
  intro p e s m args below meth c s₁ B hml hv
  obtain ⟨rfl, hP, hK⟩ := hv
  have hx := B.exec
  have hb := B.bytes
  have hr := B.returns
  have hts := atoms_spec (ws := wsX6_factorial) B.pre
  have hown : s.vm.findClass RX6 = some m.cls := findClass_of_methodNamed B.named
  have hlocks := B.notSynchronized
  have hl := lv_entry ([.int v0]) (n := 3) (Nat.le_of_ble_eq_true rfl)
  rw [lg_entry_eq]
  generalize (lg_sl ([.int v0]) ++ List.replicate (3 - (lg_sl ([.int v0])).length) Slot.unset).toArray = ls at hl ⊢
  have hl : lv_has ls 3 [(0, .int v0)] := hl
  have L4 : ∀ (fu4 : Nat) (x0 : Int32) (x1 : Int32) (x2 : Int32) (ls : Array Slot), lv_has ls 3 [(0, .int x0), (1, .int x1), (2, .int x2)] → fX6_factorial_L4 fu4 x0 x1 x2 = some r → W p l e (headSpec wsX6_factorial ({ frames := 0, cells := 0, slots := 0, locals := 0 })).room s m ([.int v0]).toArray below meth c s.heap [] 0 0 (MQ below (vp_Si (fun x => x = r)) ([.int v0]).toArray s 0 0 (fun _ => False)) (F0 m 4 ls []) := by
    intro fu4
    induction fu4 with
    | zero =>
      intro x0 x1 x2 ls hl hf
      rw [fX6_factorial_L4] at hf
      cases hf
    | succ fu4 ih4 =>
      intro x0 x1 x2 ls hl hf
      rw [fX6_factorial_L4] at hf
      refine lv_iload_n hx hb dX6_factorial_4 rfl (lv_at hl 2 rfl) ?_
      refine lv_iload_n hx hb dX6_factorial_5 rfl (lv_at hl 0 rfl) ?_
      refine dk_cgt (tgt := 19) hx hb dX6_factorial_6 (by decide) hf (fun hf => ?_) (fun hf => ?_)
      · refine lv_iload_n hx hb dX6_factorial_19 rfl (lv_at hl 1 rfl) ?_
        exact W.iret (v := x1) hx hb hr (fun t ht hW => ⟨x1, rfl, Option.some.inj hf, ht⟩) t_nil dX6_factorial_20
      · refine lv_iload_n hx hb dX6_factorial_9 rfl (lv_at hl 1 rfl) ?_
        refine lv_iload_n hx hb dX6_factorial_10 rfl (lv_at hl 2 rfl) ?_
        refine lv_imul hx hb dX6_factorial_11 ?_
        refine lv_istore_n (lv' := [(1, .int (x1 * x2)), (0, .int x0), (2, .int x2)]) hx hb dX6_factorial_12 rfl hl (by decide) rfl (fun ls hl => ?_)
        refine lv_iinc (v := x2 + 1) (lv' := [(2, .int (x2 + 1)), (1, .int (x1 * x2)), (0, .int x0)]) hx hb dX6_factorial_13 hl (k := 2) rfl rfl (by decide) rfl (fun ls hl => ?_)
        refine lv_goto (tgt := 4) hx hb dX6_factorial_16 (by decide) ?_
        exact ih4 x0 (x1 * x2) (x2 + 1) _ (lv_sub hl [2, 1, 0] rfl) hf
  unfold fX6_factorial at hf
  refine lv_iconst (v := 1) hx hb dX6_factorial_0 (by decide) ?_
  refine lv_istore_n (lv' := [(1, .int 1), (0, .int v0)]) hx hb dX6_factorial_1 rfl hl (by decide) rfl (fun ls hl => ?_)
  refine lv_iconst (v := 2) hx hb dX6_factorial_2 (by decide) ?_
  refine lv_istore_n (lv' := [(2, .int 2), (1, .int 1), (0, .int v0)]) hx hb dX6_factorial_3 rfl hl (by decide) rfl (fun ls hl => ?_)
  exact L4 1000 v0 1 2 _ (lv_sub hl [2, 1, 0] rfl) hf
theorem iX6_visitedBy_X6 : ∀ w ∈ wsX60, w ∈ wsX6_visitedBy := fun _ h => List.mem_cons_of_mem _ (List.mem_append_right _ h)
set_option maxHeartbeats 4000000 in
set_option maxRecDepth 100000 in
theorem kX6_visitedBy (l : Launch) (D : va_G) (cy : Nat → ClassId) (hM : Nat) (aM : Nat → Nat) (sdM : Int64) (sz : Nat) (M : dk_O) (v1 : Int32) (r : Int32) (oM_I : (Nat → Int32)) (oM_26 : (Nat → Int32)) (oM_17 : (Nat → Int32)) (hf : fX6_visitedBy M v1 = some (r, oM_I, oM_26, oM_17)) : dk_MuI l yX6_visitedBy wsX6_visitedBy ({ frames := 5, cells := 0, slots := 0, locals := 117 }) D cy [.ref hM, .int v1] (wMd cy hM aM sdM M) (wMd cy hM aM sdM (oM_I, dk_upA (dk_upA M.2 26 oM_26) 17 oM_17)) sz r := by
  refine Met.ofW (cc := cX6_visitedBy) (maxL := 3) (ret := (some .int)) (by decide) rfl ?_
  intro p e s m args below meth c s₁ B hml hv
  obtain ⟨rfl, hsz, hP, hK, hD0⟩ := hv
  have hx := B.exec
  have hb := B.bytes
  have hr := B.returns
  have hts := atoms_spec (ws := wsX6_visitedBy) B.pre
  have hown : s.vm.findClass RX6 = some m.cls := findClass_of_methodNamed B.named
  have hlocks := B.notSynchronized
  subst hsz
  have hD := hD0.self (sz := s.heap.size)
  generalize hAe : va_A (wMd cy hM aM sdM M) s.heap.size = A at hD ⊢
  have hA : ∀ q : Nat, s.heap.size ≤ q → A q := fun q h => by rw [← hAe]; exact Or.inr h
  have hS : va_S A s.heap s.heap [] := va_S.rf
  have hl := lv_entry ([.ref hM, .int v1]) (n := 3) (Nat.le_of_ble_eq_true rfl)
  rw [lg_entry_eq]
  generalize (lg_sl ([.ref hM, .int v1]) ++ List.replicate (3 - (lg_sl ([.ref hM, .int v1])).length) Slot.unset).toArray = ls at hl ⊢
  have hl : lv_has ls 3 [(0, .ref hM), (1, .int v1)] := hl
  have L18 : ∀ (fu18 : Nat) (x2 : Int32) (M_I : (Nat → Int32)) (M_26 : (Nat → Int32)) (M_17 : (Nat → Int32)) (H : Heap) (locs : List Loc) (ls : Array Slot), va_P D vwCl (wMd cy hM aM sdM (M_I, dk_upA (dk_upA M.2 26 M_26) 17 M_17)) H → va_D A (wMd cy hM aM sdM (M_I, dk_upA (dk_upA M.2 26 M_26) 17 M_17)) → va_S A s.heap H locs → lv_has ls 3 [(0, .ref hM), (2, .int x2)] → fX6_visitedBy_L18 M fu18 x2 M_I M_26 M_17 = some (r, oM_I, oM_26, oM_17) → W p l e (headSpec wsX6_visitedBy ({ frames := 5, cells := 0, slots := 0, locals := 117 })).room s m ([.ref hM, .int v1]).toArray below meth c H locs 0 0 (MQ below (va_Qi (fun (x : Int32) (_ : Unit) => x = r) (dk_B D (wMd cy hM aM sdM (oM_I, dk_upA (dk_upA M.2 26 oM_26) 17 oM_17)) A) A) ([.ref hM, .int v1]).toArray s 0 0 A) (F0 m 18 ls []) := by
    intro fu18
    induction fu18 with
    | zero =>
      intro x2 M_I M_26 M_17 H locs ls hP hD hS hl hf
      rw [fX6_visitedBy_L18] at hf
      cases hf
    | succ fu18 ih18 =>
      intro x2 M_I M_26 M_17 H locs ls hP hD hS hl hf
      rw [fX6_visitedBy_L18] at hf
      refine lv_iload_n hx hb dX6_visitedBy_18 rfl (lv_at hl 1 rfl) ?_
      refine lv_bipush (v := 6) hx hb dX6_visitedBy_19 (by decide) ?_
      refine dk_cge (tgt := 39) hx hb dX6_visitedBy_21 (by decide) hf (fun hf => ?_) (fun hf => ?_)
      · refine lv_aload_n hx hb dX6_visitedBy_39 rfl (lv_at hl 0 rfl) ?_
        refine lv_bipush (v := 15) hx hb dX6_visitedBy_40 (by decide) ?_
        refine va_put (D := D) (ci := 6) (v := .int 15) (ty := .int) (C := RX6) (T := TX6) (N := 28) hx hb hts iX6_visitedBy_X6 tyX6 tyX6_ok nmX6 hown hK.1 hP hD hS 0 rfl rfl 27 (by decide) (hts (.fieldLink RX6 54 "DarkPlaceModel" "come" "I") (List.mem_of_getElem? (i := 1) rfl)) (fun _ h9 => h9) rfl (by decide +kernel) rfl rfl (Nat.le_of_ble_eq_true rfl) dX6_visitedBy_42 (fun H locs hP hD hS => ?_)
        have hP : va_P D vwCl (wMd cy hM aM sdM (upd M_I 27 15, dk_upA (dk_upA M.2 26 M_26) 17 M_17)) H := hP
        have hD : va_D A (wMd cy hM aM sdM (upd M_I 27 15, dk_upA (dk_upA M.2 26 M_26) 17 M_17)) := hD
        refine lv_aload_n hx hb dX6_visitedBy_45 rfl (lv_at hl 0 rfl) ?_
        refine lv_aload_n hx hb dX6_visitedBy_46 rfl (lv_at hl 0 rfl) ?_
        refine va_get (D := D) (ci := 6) (v := .ref (aM 17)) (C := RX6) (T := TX6) (N := 28) hx hb hts iX6_visitedBy_X6 hown hK.1 hP 0 rfl rfl 17 (by decide) (hts (.fieldLink RX6 32 "DarkPlaceModel" "trial" "[I") (List.mem_of_getElem? (i := 3) rfl)) (fun _ h9 => h9) rfl dX6_visitedBy_47 ?_
        obtain ⟨r50, k50, hf⟩ := dk_bind hf
        refine dk_ri (va_runV (As := [.ref (aM 17)]) (rest := []) ⟨hx, hb, hml, hown, hts⟩ (kX6_visited l D cy hM aM sdM (aM 17) (upd M_I 27 15, dk_upA (dk_upA M.2 26 M_26) 17 M_17) M_17 r50 k50) (cwV 1 hts gX6_visitedBy_X6_visited rfl rfl rfl (by decide +kernel) ⟨Nat.le_of_ble_eq_true rfl, Nat.le_of_ble_eq_true rfl⟩) (dk_preV hK (hP.sub (ws' := wMs cy hM aM sdM (upd M_I 27 15, dk_upA (dk_upA M.2 26 M_26) 17 M_17) ++ wRw cy (aM 17) 21 M_17) [0, 1, 2, 3, 5] rfl) (ci := 6) (q0 := 0) rfl rfl) rfl rfl hl.1 rfl (lv_room (Nat.le_of_ble_eq_true rfl)) dX6_visitedBy_50 ⟨Nat.zero_le _, Nat.zero_le _⟩) ?_
        obtain ⟨r53, k53, hf⟩ := dk_bind hf
        refine dk_ri (va_runS (As := [.int r50]) (rest := []) ⟨hx, hb, hml, hown, hts⟩ (kX6_ones l D cy r50 r53 k53) (va_cwS 1 hts gX6_visitedBy_X6_ones rfl rfl rfl (by decide +kernel) ⟨Nat.le_of_ble_eq_true rfl, Nat.le_of_ble_eq_true rfl⟩) (dk_preS hK (hP.sub (ws' := []) [] rfl)) rfl rfl hl.1 rfl (lv_room (Nat.le_of_ble_eq_true rfl)) dX6_visitedBy_53 ⟨Nat.zero_le _, Nat.zero_le _⟩) ?_
        have e := Option.some.inj hf
        simp only [Prod.mk.injEq] at e
        obtain ⟨e0, e1, e2, e3⟩ := e
        subst e1
        subst e2
        subst e3
        exact W.iret (v := r53) hx hb hr (fun t ht hW => ⟨⟨r53, (), rfl, e0, by rw [ht]; exact hP, hD⟩, hS.F ht⟩) hS.2.2 dX6_visitedBy_56
      · refine lv_aload_n hx hb dX6_visitedBy_24 rfl (lv_at hl 0 rfl) ?_
        refine lv_aload_n hx hb dX6_visitedBy_25 rfl (lv_at hl 0 rfl) ?_
        refine va_get (D := D) (ci := 6) (v := .ref (aM 17)) (C := RX6) (T := TX6) (N := 28) hx hb hts iX6_visitedBy_X6 hown hK.1 hP 0 rfl rfl 17 (by decide) (hts (.fieldLink RX6 32 "DarkPlaceModel" "trial" "[I") (List.mem_of_getElem? (i := 3) rfl)) (fun _ h9 => h9) rfl dX6_visitedBy_26 ?_
        obtain ⟨⟨r29, g29_0, g29_1⟩, k29, hf⟩ := dk_bind hf
        dsimp only at hf
        have hPc := hP.sub (ws' := wMs cy hM aM sdM (M_I, dk_upA (dk_upA M.2 26 M_26) 17 M_17) ++ wRw cy (aM 17) 21 M_17) [0, 1, 2, 3, 5] rfl
        have hDc := hD.sub (ws' := wMs cy hM aM sdM (M_I, dk_upA (dk_upA M.2 26 M_26) 17 M_17) ++ wRw cy (aM 17) 21 M_17) [0, 1, 2, 3, 5] (by decide) rfl
        have hFc := va_free (wc := wMs cy hM aM sdM (M_I, dk_upA (dk_upA M.2 26 M_26) 17 M_17) ++ wRw cy (aM 17) 21 M_17) hD hS hA [0, 1, 2, 3, 5] rfl
        refine va_calli (va_runV (As := [.ref (aM 17)]) (rest := []) ⟨hx, hb, hml, hown, hts⟩ (kX6_roundOn l D cy hM aM sdM (aM 17) H.size (M_I, dk_upA (dk_upA M.2 26 M_26) 17 M_17) M_17 r29 g29_0 g29_1 k29) (cwV 1 hts gX6_visitedBy_X6_roundOn rfl rfl rfl (by decide +kernel) ⟨Nat.le_of_ble_eq_true rfl, Nat.le_of_ble_eq_true rfl⟩) (dk_premV hK hPc hDc (ci := 6) (q0 := 0) rfl rfl) rfl rfl hl.1 rfl (lv_room (Nat.le_of_ble_eq_true rfl)) dX6_visitedBy_29 ⟨Nat.zero_le _, Nat.zero_le _⟩) hS (fun q _ h => hFc q h) hFc (fun xr29 u t H1 locs ht hvm hw hB hz1 hk1 hS => ?_)
        obtain ⟨hP1, hD1⟩ := hB
        rw [ht] at hP1
        rw [hw]
        obtain ⟨hP, hD⟩ := va_join (wr := ([4, 6, 7, 8, 9, 10, 11, 12, 13] : List Nat).filterMap (fun i => (wMd cy hM aM sdM (M_I, dk_upA (dk_upA M.2 26 M_26) 17 M_17))[i]?)) (w1 := wMs cy hM aM sdM (M_I, dk_upA (dk_upA M.2 26 g29_0) 17 g29_1) ++ wRw cy (aM 17) 21 g29_1) hP hD [0, 1, 2, 3, 5] [4, 6, 7, 8, 9, 10, 11, 12, 13] rfl rfl (by decide) (by decide) hk1 hFc hP1 hD1
        generalize H1 = H at hP hS ⊢
        have hP : va_P D vwCl (wMd cy hM aM sdM (M_I, dk_upA (dk_upA M.2 26 g29_0) 17 g29_1)) H := hP.sub [9, 10, 11, 12, 0, 13, 1, 2, 3, 4, 5, 6, 7, 8] rfl
        have hD : va_D A (wMd cy hM aM sdM (M_I, dk_upA (dk_upA M.2 26 g29_0) 17 g29_1)) := hD.sub [9, 10, 11, 12, 0, 13, 1, 2, 3, 4, 5, 6, 7, 8] (by decide) rfl
        refine lv_pop hx hb dX6_visitedBy_32 rfl ?_
        refine lv_iinc (v := x2 + 1) (lv' := [(2, .int (x2 + 1)), (0, .ref hM)]) hx hb dX6_visitedBy_33 hl (k := 1) rfl rfl (by decide) rfl (fun ls hl => ?_)
        refine lv_goto (tgt := 18) hx hb dX6_visitedBy_36 (by decide) ?_
        exact ih18 (x2 + 1) M_I g29_0 g29_1 _ _ _ hP hD hS (lv_sub hl [1, 0] rfl) hf
  unfold fX6_visitedBy at hf
  refine lv_aload_n hx hb dX6_visitedBy_0 rfl (lv_at hl 0 rfl) ?_
  refine lv_iload_n hx hb dX6_visitedBy_1 rfl (lv_at hl 1 rfl) ?_
  refine va_put (D := D) (ci := 6) (v := .int v1) (ty := .int) (C := RX6) (T := TX6) (N := 28) hx hb hts iX6_visitedBy_X6 tyX6 tyX6_ok nmX6 hown hK.1 hP hD hS 0 rfl rfl 27 (by decide) (hts (.fieldLink RX6 54 "DarkPlaceModel" "come" "I") (List.mem_of_getElem? (i := 1) rfl)) (fun _ h9 => h9) rfl (by decide +kernel) rfl rfl (Nat.le_of_ble_eq_true rfl) dX6_visitedBy_2 (fun H locs hP hD hS => ?_)
  have hP : va_P D vwCl (wMd cy hM aM sdM (upd M.1 27 v1, M.2)) H := hP
  have hD : va_D A (wMd cy hM aM sdM (upd M.1 27 v1, M.2)) := hD
  refine lv_aload_n hx hb dX6_visitedBy_5 rfl (lv_at hl 0 rfl) ?_
  refine va_get (D := D) (ci := 6) (v := .ref (aM 16)) (C := RX6) (T := TX6) (N := 28) hx hb hts iX6_visitedBy_X6 hown hK.1 hP 0 rfl rfl 16 (by decide) (hts (.fieldLink RX6 29 "DarkPlaceModel" "page" "[I") (List.mem_of_getElem? (i := 2) rfl)) (fun _ h9 => h9) rfl dX6_visitedBy_6 ?_
  refine lv_aload_n hx hb dX6_visitedBy_9 rfl (lv_at hl 0 rfl) ?_
  refine va_get (D := D) (ci := 6) (v := .ref (aM 17)) (C := RX6) (T := TX6) (N := 28) hx hb hts iX6_visitedBy_X6 hown hK.1 hP 0 rfl rfl 17 (by decide) (hts (.fieldLink RX6 32 "DarkPlaceModel" "trial" "[I") (List.mem_of_getElem? (i := 3) rfl)) (fun _ h9 => h9) rfl dX6_visitedBy_10 ?_
  obtain ⟨g13_0, k13, hf⟩ := dk_bind hf
  have hPc := hP.sub (ws' := wRw cy (aM 16) 21 (M.2 16) ++ wRw cy (aM 17) 21 (M.2 17)) [4, 5] rfl
  have hDc := hD.sub (ws' := wRw cy (aM 16) 21 (M.2 16) ++ wRw cy (aM 17) 21 (M.2 17)) [4, 5] (by decide) rfl
  have hFc := va_free (wc := wRw cy (aM 16) 21 (M.2 16) ++ wRw cy (aM 17) 21 (M.2 17)) hD hS hA [4, 5] rfl
  refine va_callv (va_runS (As := [.ref (aM 16), .ref (aM 17)]) (rest := []) ⟨hx, hb, hml, hown, hts⟩ (kX6_lay l D cy (aM 16) (aM 17) H.size (M.2 16) (M.2 17) g13_0 k13) (va_cwS 2 hts gX6_visitedBy_X6_lay rfl rfl rfl (by decide +kernel) ⟨Nat.le_of_ble_eq_true rfl, Nat.le_of_ble_eq_true rfl⟩) (dk_premS hK hPc hDc) rfl rfl hl.1 rfl (lv_room (Nat.le_of_ble_eq_true rfl)) dX6_visitedBy_13 ⟨Nat.zero_le _, Nat.zero_le _⟩) hS (fun q _ h => hFc q h) hFc (fun u t H1 locs ht hvm hw hB hz1 hk1 hS => ?_)
  obtain ⟨hP1, hD1⟩ := hB
  rw [ht] at hP1
  obtain ⟨hP, hD⟩ := va_join (wr := ([0, 1, 2, 3, 6, 7, 8, 9, 10, 11, 12, 13] : List Nat).filterMap (fun i => (wMd cy hM aM sdM (upd M.1 27 v1, M.2))[i]?)) (w1 := wRw cy (aM 16) 21 (M.2 16) ++ wRw cy (aM 17) 21 g13_0) hP hD [4, 5] [0, 1, 2, 3, 6, 7, 8, 9, 10, 11, 12, 13] rfl rfl (by decide) (by decide) hk1 hFc hP1 hD1
  generalize H1 = H at hP hS ⊢
  have hP : va_P D vwCl (wMd cy hM aM sdM (upd M.1 27 v1, dk_upA M.2 17 g13_0)) H := hP.sub [0, 1, 2, 3, 12, 13, 4, 5, 6, 7, 8, 9, 10, 11] rfl
  have hD : va_D A (wMd cy hM aM sdM (upd M.1 27 v1, dk_upA M.2 17 g13_0)) := hD.sub [0, 1, 2, 3, 12, 13, 4, 5, 6, 7, 8, 9, 10, 11] (by decide) rfl
  refine lv_iconst (v := 0) hx hb dX6_visitedBy_16 (by decide) ?_
  refine lv_istore_n (lv' := [(2, .int 0), (0, .ref hM), (1, .int v1)]) hx hb dX6_visitedBy_17 rfl hl (by decide) rfl (fun ls hl => ?_)
  exact L18 1000 0 (upd M.1 27 v1) (M.2 26) g13_0 _ _ _ hP hD hS (lv_sub hl [1, 0] rfl) hf
theorem iX6_share_X6 : ∀ w ∈ wsX60, w ∈ wsX6_share := fun _ h => List.mem_cons_of_mem _ (List.mem_append_right _ h)
set_option maxHeartbeats 4000000 in
set_option maxRecDepth 100000 in
theorem kX6_share (l : Launch) (D : va_G) (cy : Nat → ClassId) (hM : Nat) (aM : Nat → Nat) (sdM : Int64) (sz : Nat) (M : dk_O) (v1 : Int32) (v2 : Int32) (r : Int32) (oM_I : (Nat → Int32)) (oM_26 : (Nat → Int32)) (oM_17 : (Nat → Int32)) (hf : fX6_share M v1 v2 = some (r, oM_I, oM_26, oM_17)) : dk_MuI l yX6_share wsX6_share ({ frames := 6, cells := 0, slots := 0, locals := 139 }) D cy [.ref hM, .int v1, .int v2] (wMd cy hM aM sdM M) (wMd cy hM aM sdM (oM_I, dk_upA (dk_upA M.2 26 oM_26) 17 oM_17)) sz r := by
  refine Met.ofW (cc := cX6_share) (maxL := 8) (ret := (some .int)) (by decide) rfl ?_
  intro p e s m args below meth c s₁ B hml hv
  obtain ⟨rfl, hsz, hP, hK, hD0⟩ := hv
  have hx := B.exec
  have hb := B.bytes
  have hr := B.returns
  have hts := atoms_spec (ws := wsX6_share) B.pre
  have hown : s.vm.findClass RX6 = some m.cls := findClass_of_methodNamed B.named
  have hlocks := B.notSynchronized
  subst hsz
  have hD := hD0.self (sz := s.heap.size)
  generalize hAe : va_A (wMd cy hM aM sdM M) s.heap.size = A at hD ⊢
  have hA : ∀ q : Nat, s.heap.size ≤ q → A q := fun q h => by rw [← hAe]; exact Or.inr h
  have hS : va_S A s.heap s.heap [] := va_S.rf
  have hl := lv_entry ([.ref hM, .int v1, .int v2]) (n := 8) (Nat.le_of_ble_eq_true rfl)
  rw [lg_entry_eq]
  generalize (lg_sl ([.ref hM, .int v1, .int v2]) ++ List.replicate (8 - (lg_sl ([.ref hM, .int v1, .int v2])).length) Slot.unset).toArray = ls at hl ⊢
  have hl : lv_has ls 8 [(0, .ref hM), (1, .int v1), (2, .int v2)] := hl
  have L86 : ∀ (fu86 : Nat) (x1 : Int32) (x2 : Int32) (x3 : Int32) (x4 : Int32) (x5 : Int32) (x6 : Int32) (M_I : (Nat → Int32)) (M_26 : (Nat → Int32)) (M_17 : (Nat → Int32)) (H : Heap) (locs : List Loc) (ls : Array Slot), va_P D vwCl (wMd cy hM aM sdM (M_I, dk_upA (dk_upA M.2 26 M_26) 17 M_17)) H → va_D A (wMd cy hM aM sdM (M_I, dk_upA (dk_upA M.2 26 M_26) 17 M_17)) → va_S A s.heap H locs → lv_has ls 8 [(0, .ref hM), (1, .int x1), (2, .int x2), (3, .int x3), (4, .int x4), (5, .int x5), (6, .int x6)] → fX6_share_L86 M fu86 x1 x2 x3 x4 x5 x6 M_I M_26 M_17 = some (r, oM_I, oM_26, oM_17) → W p l e (headSpec wsX6_share ({ frames := 6, cells := 0, slots := 0, locals := 139 })).room s m ([.ref hM, .int v1, .int v2]).toArray below meth c H locs 0 0 (MQ below (va_Qi (fun (x : Int32) (_ : Unit) => x = r) (dk_B D (wMd cy hM aM sdM (oM_I, dk_upA (dk_upA M.2 26 oM_26) 17 oM_17)) A) A) ([.ref hM, .int v1, .int v2]).toArray s 0 0 A) (F0 m 86 ls []) := by
    intro fu86
    induction fu86 with
    | zero =>
      intro x1 x2 x3 x4 x5 x6 M_I M_26 M_17 H locs ls hP hD hS hl hf
      rw [fX6_share_L86] at hf
      cases hf
    | succ fu86 ih86 =>
      intro x1 x2 x3 x4 x5 x6 M_I M_26 M_17 H locs ls hP hD hS hl hf
      rw [fX6_share_L86] at hf
      refine lv_iload hx hb dX6_share_86 (lv_at hl 6 rfl) ?_
      refine lv_bipush (v := 16) hx hb dX6_share_88 (by decide) ?_
      refine dk_cge (tgt := 163) hx hb dX6_share_90 (by decide) hf (fun hf => ?_) (fun hf => ?_)
      · refine lv_iload hx hb dX6_share_163 (lv_at hl 5 rfl) ?_
        refine lv_iload hx hb dX6_share_165 (lv_at hl 4 rfl) ?_
        obtain ⟨r167, k167, hf⟩ := dk_bind hf
        refine dk_ri (va_runS (As := [.int x4]) (rest := [.int x5]) ⟨hx, hb, hml, hown, hts⟩ (kX6_factorial l D cy x4 r167 k167) (va_cwS 1 hts gX6_share_X6_factorial rfl rfl rfl (by decide +kernel) ⟨Nat.le_of_ble_eq_true rfl, Nat.le_of_ble_eq_true rfl⟩) (dk_preS hK (hP.sub (ws' := []) [] rfl)) rfl rfl hl.1 rfl (lv_room (Nat.le_of_ble_eq_true rfl)) dX6_share_167 ⟨Nat.zero_le _, Nat.zero_le _⟩) ?_
        refine lv_iload_n hx hb dX6_share_170 rfl (lv_at hl 2 rfl) ?_
        obtain ⟨r171, k171, hf⟩ := dk_bind hf
        refine dk_ri (va_runS (As := [.int x5, .int r167, .int x2]) (rest := []) ⟨hx, hb, hml, hown, hts⟩ (kX6_fraction l D cy x5 r167 x2 r171 k171) (va_cwS 3 hts gX6_share_X6_fraction rfl rfl rfl (by decide +kernel) ⟨Nat.le_of_ble_eq_true rfl, Nat.le_of_ble_eq_true rfl⟩) (dk_preS hK (hP.sub (ws' := []) [] rfl)) rfl rfl hl.1 rfl (lv_room (Nat.le_of_ble_eq_true rfl)) dX6_share_171 ⟨Nat.zero_le _, Nat.zero_le _⟩) ?_
        have e := Option.some.inj hf
        simp only [Prod.mk.injEq] at e
        obtain ⟨e0, e1, e2, e3⟩ := e
        subst e1
        subst e2
        subst e3
        exact W.iret (v := r171) hx hb hr (fun t ht hW => ⟨⟨r171, (), rfl, e0, by rw [ht]; exact hP, hD⟩, hS.F ht⟩) hS.2.2 dX6_share_174
      · refine lv_iload hx hb dX6_share_93 (lv_at hl 6 rfl) ?_
        refine lv_iload_n hx hb dX6_share_95 rfl (lv_at hl 3 rfl) ?_
        refine lv_iconst (v := (-1)) hx hb dX6_share_96 (by decide) ?_
        refine lv_ixor hx hb dX6_share_97 ?_
        refine lv_iand hx hb dX6_share_98 ?_
        refine dk_ine (tgt := 157) hx hb dX6_share_99 (by decide) hf (fun hf => ?_) (fun hf => ?_)
        · refine lv_iinc (v := x6 + 1) (lv' := [(6, .int (x6 + 1)), (0, .ref hM), (1, .int x1), (2, .int x2), (3, .int x3), (4, .int x4), (5, .int x5)]) hx hb dX6_share_157 hl (k := 6) rfl rfl (by decide) rfl (fun ls hl => ?_)
          refine lv_goto (tgt := 86) hx hb dX6_share_160 (by decide) ?_
          exact ih86 x1 x2 x3 x4 x5 (x6 + 1) M_I M_26 M_17 _ _ _ hP hD hS (lv_sub hl [1, 2, 3, 4, 5, 6, 0] rfl) hf
        · refine lv_iload hx hb dX6_share_102 (lv_at hl 6 rfl) ?_
          refine lv_iload_n hx hb dX6_share_104 rfl (lv_at hl 1 rfl) ?_
          obtain ⟨r105, k105, hf⟩ := dk_bind hf
          refine dk_ri (va_runS (As := [.int x6, .int x1]) (rest := []) ⟨hx, hb, hml, hown, hts⟩ (kX6_has l D cy x6 x1 r105 k105) (va_cwS 2 hts gX6_share_X6_has rfl rfl rfl (by decide +kernel) ⟨Nat.le_of_ble_eq_true rfl, Nat.le_of_ble_eq_true rfl⟩) (dk_preS hK (hP.sub (ws' := []) [] rfl)) rfl rfl hl.1 rfl (lv_room (Nat.le_of_ble_eq_true rfl)) dX6_share_105 ⟨Nat.zero_le _, Nat.zero_le _⟩) ?_
          refine dk_ine (tgt := 157) hx hb dX6_share_108 (by decide) hf (fun hf => ?_) (fun hf => ?_)
          · refine lv_iinc (v := x6 + 1) (lv' := [(6, .int (x6 + 1)), (0, .ref hM), (1, .int x1), (2, .int x2), (3, .int x3), (4, .int x4), (5, .int x5)]) hx hb dX6_share_157 hl (k := 6) rfl rfl (by decide) rfl (fun ls hl => ?_)
            refine lv_goto (tgt := 86) hx hb dX6_share_160 (by decide) ?_
            exact ih86 x1 x2 x3 x4 x5 (x6 + 1) M_I M_26 M_17 _ _ _ hP hD hS (lv_sub hl [1, 2, 3, 4, 5, 6, 0] rfl) hf
          · refine lv_iload hx hb dX6_share_111 (lv_at hl 6 rfl) ?_
            obtain ⟨r113, k113, hf⟩ := dk_bind hf
            refine dk_ri (va_runS (As := [.int x6]) (rest := []) ⟨hx, hb, hml, hown, hts⟩ (kX6_ones l D cy x6 r113 k113) (va_cwS 1 hts gX6_share_X6_ones rfl rfl rfl (by decide +kernel) ⟨Nat.le_of_ble_eq_true rfl, Nat.le_of_ble_eq_true rfl⟩) (dk_preS hK (hP.sub (ws' := []) [] rfl)) rfl rfl hl.1 rfl (lv_room (Nat.le_of_ble_eq_true rfl)) dX6_share_113 ⟨Nat.zero_le _, Nat.zero_le _⟩) ?_
            refine lv_istore (lv' := [(7, .int r113), (0, .ref hM), (1, .int x1), (2, .int x2), (3, .int x3), (4, .int x4), (5, .int x5), (6, .int x6)]) hx hb dX6_share_116 hl (by decide) rfl (fun ls hl => ?_)
            refine lv_iload hx hb dX6_share_118 (lv_at hl 6 rfl) ?_
            refine lv_iload hx hb dX6_share_120 (lv_at hl 0 rfl) ?_
            obtain ⟨r122, k122, hf⟩ := dk_bind hf
            refine dk_ri (va_runS (As := [.int r113]) (rest := [.int x5]) ⟨hx, hb, hml, hown, hts⟩ (kX6_factorial l D cy r113 r122 k122) (va_cwS 1 hts gX6_share_X6_factorial rfl rfl rfl (by decide +kernel) ⟨Nat.le_of_ble_eq_true rfl, Nat.le_of_ble_eq_true rfl⟩) (dk_preS hK (hP.sub (ws' := []) [] rfl)) rfl rfl hl.1 rfl (lv_room (Nat.le_of_ble_eq_true rfl)) dX6_share_122 ⟨Nat.zero_le _, Nat.zero_le _⟩) ?_
            refine lv_iload hx hb dX6_share_125 (lv_at hl 5 rfl) ?_
            refine lv_iconst (v := 1) hx hb dX6_share_127 (by decide) ?_
            refine lv_isub hx hb dX6_share_128 ?_
            refine lv_iload hx hb dX6_share_129 (lv_at hl 0 rfl) ?_
            refine lv_isub hx hb dX6_share_131 ?_
            obtain ⟨r132, k132, hf⟩ := dk_bind hf
            refine dk_ri (va_runS (As := [.int ((x4 - 1) - r113)]) (rest := [.int r122, .int x5]) ⟨hx, hb, hml, hown, hts⟩ (kX6_factorial l D cy ((x4 - 1) - r113) r132 k132) (va_cwS 1 hts gX6_share_X6_factorial rfl rfl rfl (by decide +kernel) ⟨Nat.le_of_ble_eq_true rfl, Nat.le_of_ble_eq_true rfl⟩) (dk_preS hK (hP.sub (ws' := []) [] rfl)) rfl rfl hl.1 rfl (lv_room (Nat.le_of_ble_eq_true rfl)) dX6_share_132 ⟨Nat.zero_le _, Nat.zero_le _⟩) ?_
            refine lv_imul hx hb dX6_share_135 ?_
            refine lv_aload_n hx hb dX6_share_136 rfl (lv_at hl 1 rfl) ?_
            refine lv_iload hx hb dX6_share_137 (lv_at hl 7 rfl) ?_
            refine lv_iconst (v := 1) hx hb dX6_share_139 (by decide) ?_
            refine lv_iload_n hx hb dX6_share_140 rfl (lv_at hl 2 rfl) ?_
            refine lv_ishl hx hb dX6_share_141 ?_
            refine lv_ior hx hb dX6_share_142 ?_
            obtain ⟨⟨r143, i143_0, g143_1, g143_2⟩, k143, hf⟩ := dk_bind hf
            dsimp only at hf
            have hPc := hP.sub (ws' := wMd cy hM aM sdM (M_I, dk_upA (dk_upA M.2 26 M_26) 17 M_17)) [0, 1, 2, 3, 4, 5, 6, 7, 8, 9, 10, 11, 12, 13] rfl
            have hDc := hD.sub (ws' := wMd cy hM aM sdM (M_I, dk_upA (dk_upA M.2 26 M_26) 17 M_17)) [0, 1, 2, 3, 4, 5, 6, 7, 8, 9, 10, 11, 12, 13] (by decide) rfl
            have hFc := va_free (wc := wMd cy hM aM sdM (M_I, dk_upA (dk_upA M.2 26 M_26) 17 M_17)) hD hS hA [0, 1, 2, 3, 4, 5, 6, 7, 8, 9, 10, 11, 12, 13] rfl
            refine va_calli (va_runV (As := [.int (x6 ||| ((1 : Int32) <<< (x1 &&& 31)))]) (rest := [.int (r122 * r132), .int x5]) ⟨hx, hb, hml, hown, hts⟩ (kX6_visitedBy l D cy hM aM sdM H.size (M_I, dk_upA (dk_upA M.2 26 M_26) 17 M_17) (x6 ||| ((1 : Int32) <<< (x1 &&& 31))) r143 i143_0 g143_1 g143_2 k143) (cwV 1 hts gX6_share_X6_visitedBy rfl rfl rfl (by decide +kernel) ⟨Nat.le_of_ble_eq_true rfl, Nat.le_of_ble_eq_true rfl⟩) (dk_premV hK hPc hDc (ci := 6) (q0 := 0) rfl rfl) rfl rfl hl.1 rfl (lv_room (Nat.le_of_ble_eq_true rfl)) dX6_share_143 ⟨Nat.zero_le _, Nat.zero_le _⟩) hS (fun q _ h => hFc q h) hFc (fun xr143 u t H1 locs ht hvm hw hB hz1 hk1 hS => ?_)
            obtain ⟨hP1, hD1⟩ := hB
            rw [ht] at hP1
            rw [hw]
            obtain ⟨hP, hD⟩ := va_join (wr := ([] : List Nat).filterMap (fun i => (wMd cy hM aM sdM (M_I, dk_upA (dk_upA M.2 26 M_26) 17 M_17))[i]?)) (w1 := wMd cy hM aM sdM (i143_0, dk_upA (dk_upA M.2 26 g143_1) 17 g143_2)) hP hD [0, 1, 2, 3, 4, 5, 6, 7, 8, 9, 10, 11, 12, 13] [] rfl rfl (by decide) (by decide) hk1 hFc hP1 hD1
            generalize H1 = H at hP hS ⊢
            have hP : va_P D vwCl (wMd cy hM aM sdM (i143_0, dk_upA (dk_upA M.2 26 g143_1) 17 g143_2)) H := hP.sub [0, 1, 2, 3, 4, 5, 6, 7, 8, 9, 10, 11, 12, 13] rfl
            have hD : va_D A (wMd cy hM aM sdM (i143_0, dk_upA (dk_upA M.2 26 g143_1) 17 g143_2)) := hD.sub [0, 1, 2, 3, 4, 5, 6, 7, 8, 9, 10, 11, 12, 13] (by decide) rfl
            refine lv_aload_n hx hb dX6_share_146 rfl (lv_at hl 1 rfl) ?_
            refine lv_iload hx hb dX6_share_147 (lv_at hl 7 rfl) ?_
            obtain ⟨⟨r149, i149_0, g149_1, g149_2⟩, k149, hf⟩ := dk_bind hf
            dsimp only at hf
            have hPc := hP.sub (ws' := wMd cy hM aM sdM (i143_0, dk_upA (dk_upA M.2 26 g143_1) 17 g143_2)) [0, 1, 2, 3, 4, 5, 6, 7, 8, 9, 10, 11, 12, 13] rfl
            have hDc := hD.sub (ws' := wMd cy hM aM sdM (i143_0, dk_upA (dk_upA M.2 26 g143_1) 17 g143_2)) [0, 1, 2, 3, 4, 5, 6, 7, 8, 9, 10, 11, 12, 13] (by decide) rfl
            have hFc := va_free (wc := wMd cy hM aM sdM (i143_0, dk_upA (dk_upA M.2 26 g143_1) 17 g143_2)) hD hS hA [0, 1, 2, 3, 4, 5, 6, 7, 8, 9, 10, 11, 12, 13] rfl
            refine va_calli (va_runV (As := [.int x6]) (rest := [.int r143, .int (r122 * r132), .int x5]) ⟨hx, hb, hml, hown, hts⟩ (kX6_visitedBy l D cy hM aM sdM H.size (i143_0, dk_upA (dk_upA M.2 26 g143_1) 17 g143_2) x6 r149 i149_0 g149_1 g149_2 k149) (cwV 1 hts gX6_share_X6_visitedBy rfl rfl rfl (by decide +kernel) ⟨Nat.le_of_ble_eq_true rfl, Nat.le_of_ble_eq_true rfl⟩) (dk_premV hK hPc hDc (ci := 6) (q0 := 0) rfl rfl) rfl rfl hl.1 rfl (lv_room (Nat.le_of_ble_eq_true rfl)) dX6_share_149 ⟨Nat.zero_le _, Nat.zero_le _⟩) hS (fun q _ h => hFc q h) hFc (fun xr149 u t H1 locs ht hvm hw hB hz1 hk1 hS => ?_)
            obtain ⟨hP1, hD1⟩ := hB
            rw [ht] at hP1
            rw [hw]
            obtain ⟨hP, hD⟩ := va_join (wr := ([] : List Nat).filterMap (fun i => (wMd cy hM aM sdM (i143_0, dk_upA (dk_upA M.2 26 g143_1) 17 g143_2))[i]?)) (w1 := wMd cy hM aM sdM (i149_0, dk_upA (dk_upA M.2 26 g149_1) 17 g149_2)) hP hD [0, 1, 2, 3, 4, 5, 6, 7, 8, 9, 10, 11, 12, 13] [] rfl rfl (by decide) (by decide) hk1 hFc hP1 hD1
            generalize H1 = H at hP hS ⊢
            have hP : va_P D vwCl (wMd cy hM aM sdM (i149_0, dk_upA (dk_upA M.2 26 g149_1) 17 g149_2)) H := hP.sub [0, 1, 2, 3, 4, 5, 6, 7, 8, 9, 10, 11, 12, 13] rfl
            have hD : va_D A (wMd cy hM aM sdM (i149_0, dk_upA (dk_upA M.2 26 g149_1) 17 g149_2)) := hD.sub [0, 1, 2, 3, 4, 5, 6, 7, 8, 9, 10, 11, 12, 13] (by decide) rfl
            refine lv_isub hx hb dX6_share_152 ?_
            refine lv_imul hx hb dX6_share_153 ?_
            refine lv_iadd hx hb dX6_share_154 ?_
            refine lv_istore (lv' := [(5, .int (x5 + ((r122 * r132) * (r143 - r149)))), (7, .int r113), (0, .ref hM), (1, .int x1), (2, .int x2), (3, .int x3), (4, .int x4), (6, .int x6)]) hx hb dX6_share_155 hl (by decide) rfl (fun ls hl => ?_)
            refine lv_iinc (v := x6 + 1) (lv' := [(6, .int (x6 + 1)), (5, .int (x5 + ((r122 * r132) * (r143 - r149)))), (7, .int r113), (0, .ref hM), (1, .int x1), (2, .int x2), (3, .int x3), (4, .int x4)]) hx hb dX6_share_157 hl (k := 7) rfl rfl (by decide) rfl (fun ls hl => ?_)
            refine lv_goto (tgt := 86) hx hb dX6_share_160 (by decide) ?_
            exact ih86 x1 x2 x3 x4 (x5 + ((r122 * r132) * (r143 - r149))) (x6 + 1) i149_0 g149_1 g149_2 _ _ _ hP hD hS (lv_sub hl [3, 4, 5, 6, 7, 1, 0] rfl) hf
  have L34 : ∀ (fu34 : Nat) (x1 : Int32) (x2 : Int32) (x3 : Int32) (x4 : Int32) (M_I : (Nat → Int32)) (M_26 : (Nat → Int32)) (M_17 : (Nat → Int32)) (H : Heap) (locs : List Loc) (ls : Array Slot), va_P D vwCl (wMd cy hM aM sdM (M_I, dk_upA (dk_upA M.2 26 M_26) 17 M_17)) H → va_D A (wMd cy hM aM sdM (M_I, dk_upA (dk_upA M.2 26 M_26) 17 M_17)) → va_S A s.heap H locs → lv_has ls 8 [(0, .ref hM), (1, .int x1), (2, .int x2), (3, .int x3), (4, .int x4)] → fX6_share_L34 M fu34 x1 x2 x3 x4 M_I M_26 M_17 = some (r, oM_I, oM_26, oM_17) → W p l e (headSpec wsX6_share ({ frames := 6, cells := 0, slots := 0, locals := 139 })).room s m ([.ref hM, .int v1, .int v2]).toArray below meth c H locs 0 0 (MQ below (va_Qi (fun (x : Int32) (_ : Unit) => x = r) (dk_B D (wMd cy hM aM sdM (oM_I, dk_upA (dk_upA M.2 26 oM_26) 17 oM_17)) A) A) ([.ref hM, .int v1, .int v2]).toArray s 0 0 A) (F0 m 34 ls []) := by
    intro fu34
    induction fu34 with
    | zero =>
      intro x1 x2 x3 x4 M_I M_26 M_17 H locs ls hP hD hS hl hf
      rw [fX6_share_L34] at hf
      cases hf
    | succ fu34 ih34 =>
      intro x1 x2 x3 x4 M_I M_26 M_17 H locs ls hP hD hS hl hf
      rw [fX6_share_L34] at hf
      refine lv_iload hx hb dX6_share_34 (lv_at hl 4 rfl) ?_
      refine lv_aload_n hx hb dX6_share_36 rfl (lv_at hl 0 rfl) ?_
      refine va_get (D := D) (ci := 6) (v := .ref (aM 16)) (C := RX6) (T := TX6) (N := 28) hx hb hts iX6_share_X6 hown hK.1 hP 0 rfl rfl 16 (by decide) (hts (.fieldLink RX6 29 "DarkPlaceModel" "page" "[I") (List.mem_of_getElem? (i := 2) rfl)) (fun _ h9 => h9) rfl dX6_share_37 ?_
      refine lv_iconst (v := 1) hx hb dX6_share_40 (by decide) ?_
      refine dk_iald hx hb hK.1 hP 4 0 rfl rfl hf dX6_share_41 (fun d41 hf => ?_)
      refine dk_cge (tgt := 74) hx hb dX6_share_42 (by decide) hf (fun hf => ?_) (fun hf => ?_)
      · refine lv_iload_n hx hb dX6_share_74 rfl (lv_at hl 3 rfl) ?_
        obtain ⟨r75, k75, hf⟩ := dk_bind hf
        refine dk_ri (va_runS (As := [.int x3]) (rest := []) ⟨hx, hb, hml, hown, hts⟩ (kX6_ones l D cy x3 r75 k75) (va_cwS 1 hts gX6_share_X6_ones rfl rfl rfl (by decide +kernel) ⟨Nat.le_of_ble_eq_true rfl, Nat.le_of_ble_eq_true rfl⟩) (dk_preS hK (hP.sub (ws' := []) [] rfl)) rfl rfl hl.1 rfl (lv_room (Nat.le_of_ble_eq_true rfl)) dX6_share_75 ⟨Nat.zero_le _, Nat.zero_le _⟩) ?_
        refine lv_istore (lv' := [(4, .int r75), (0, .ref hM), (1, .int x1), (2, .int x2), (3, .int x3)]) hx hb dX6_share_78 hl (by decide) rfl (fun ls hl => ?_)
        refine lv_iconst (v := 0) hx hb dX6_share_80 (by decide) ?_
        refine lv_istore (lv' := [(5, .int 0), (4, .int r75), (0, .ref hM), (1, .int x1), (2, .int x2), (3, .int x3)]) hx hb dX6_share_81 hl (by decide) rfl (fun ls hl => ?_)
        refine lv_iconst (v := 0) hx hb dX6_share_83 (by decide) ?_
        refine lv_istore (lv' := [(6, .int 0), (5, .int 0), (4, .int r75), (0, .ref hM), (1, .int x1), (2, .int x2), (3, .int x3)]) hx hb dX6_share_84 hl (by decide) rfl (fun ls hl => ?_)
        exact L86 1000 x1 x2 x3 r75 0 0 M_I M_26 M_17 _ _ _ hP hD hS (lv_sub hl [3, 4, 5, 6, 2, 1, 0] rfl) hf
      · refine lv_iload_n hx hb dX6_share_45 rfl (lv_at hl 3 rfl) ?_
        refine lv_aload_n hx hb dX6_share_46 rfl (lv_at hl 0 rfl) ?_
        refine va_get (D := D) (ci := 6) (v := .ref (aM 16)) (C := RX6) (T := TX6) (N := 28) hx hb hts iX6_share_X6 hown hK.1 hP 0 rfl rfl 16 (by decide) (hts (.fieldLink RX6 29 "DarkPlaceModel" "page" "[I") (List.mem_of_getElem? (i := 2) rfl)) (fun _ h9 => h9) rfl dX6_share_47 ?_
        refine lv_iload hx hb dX6_share_50 (lv_at hl 4 rfl) ?_
        obtain ⟨r52, k52, hf⟩ := dk_bind hf
        refine dk_ri (va_runS (As := [.ref (aM 16), .int x4]) (rest := [.int x3]) ⟨hx, hb, hml, hown, hts⟩ (kX6_lives l D cy (aM 16) (M.2 16) x4 r52 k52) (va_cwS 2 hts gX6_share_X6_lives rfl rfl rfl (by decide +kernel) ⟨Nat.le_of_ble_eq_true rfl, Nat.le_of_ble_eq_true rfl⟩) (dk_preS hK (hP.sub (ws' := wRw cy (aM 16) 21 (M.2 16)) [4] rfl)) rfl rfl hl.1 rfl (lv_room (Nat.le_of_ble_eq_true rfl)) dX6_share_52 ⟨Nat.zero_le _, Nat.zero_le _⟩) ?_
        refine dk_ieq (tgt := 65) hx hb dX6_share_55 (by decide) hf (fun hf => ?_) (fun hf => ?_)
        · refine lv_iconst (v := 0) hx hb dX6_share_65 (by decide) ?_
          refine lv_ior hx hb dX6_share_66 ?_
          refine lv_istore_n (lv' := [(3, .int (x3 ||| 0)), (0, .ref hM), (1, .int x1), (2, .int x2), (4, .int x4)]) hx hb dX6_share_67 rfl hl (by decide) rfl (fun ls hl => ?_)
          refine lv_iinc (v := x4 + 1) (lv' := [(4, .int (x4 + 1)), (3, .int (x3 ||| 0)), (0, .ref hM), (1, .int x1), (2, .int x2)]) hx hb dX6_share_68 hl (k := 4) rfl rfl (by decide) rfl (fun ls hl => ?_)
          refine lv_goto (tgt := 34) hx hb dX6_share_71 (by decide) ?_
          exact ih34 x1 x2 (x3 ||| 0) (x4 + 1) M_I M_26 M_17 _ _ _ hP hD hS (lv_sub hl [2, 3, 4, 1, 0] rfl) hf
        · refine lv_iconst (v := 1) hx hb dX6_share_58 (by decide) ?_
          refine lv_iload hx hb dX6_share_59 (lv_at hl 4 rfl) ?_
          refine lv_ishl hx hb dX6_share_61 ?_
          refine lv_goto (tgt := 66) hx hb dX6_share_62 (by decide) ?_
          refine lv_ior hx hb dX6_share_66 ?_
          refine lv_istore_n (lv' := [(3, .int (x3 ||| ((1 : Int32) <<< (x4 &&& 31)))), (0, .ref hM), (1, .int x1), (2, .int x2), (4, .int x4)]) hx hb dX6_share_67 rfl hl (by decide) rfl (fun ls hl => ?_)
          refine lv_iinc (v := x4 + 1) (lv' := [(4, .int (x4 + 1)), (3, .int (x3 ||| ((1 : Int32) <<< (x4 &&& 31)))), (0, .ref hM), (1, .int x1), (2, .int x2)]) hx hb dX6_share_68 hl (k := 4) rfl rfl (by decide) rfl (fun ls hl => ?_)
          refine lv_goto (tgt := 34) hx hb dX6_share_71 (by decide) ?_
          exact ih34 x1 x2 (x3 ||| ((1 : Int32) <<< (x4 &&& 31))) (x4 + 1) M_I M_26 M_17 _ _ _ hP hD hS (lv_sub hl [2, 3, 4, 1, 0] rfl) hf
  unfold fX6_share at hf
  refine lv_aload_n hx hb dX6_share_0 rfl (lv_at hl 0 rfl) ?_
  refine lv_iconst (v := 0) hx hb dX6_share_1 (by decide) ?_
  refine va_put (D := D) (ci := 6) (v := .int 0) (ty := .int) (C := RX6) (T := TX6) (N := 28) hx hb hts iX6_share_X6 tyX6 tyX6_ok nmX6 hown hK.1 hP hD hS 0 rfl rfl 0 (by decide) (hts (.fieldLink RX6 61 "DarkPlaceModel" "thrown" "I") (List.mem_of_getElem? (i := 1) rfl)) (fun _ h9 => h9) rfl (by decide +kernel) rfl rfl (Nat.le_of_ble_eq_true rfl) dX6_share_2 (fun H locs hP hD hS => ?_)
  have hP : va_P D vwCl (wMd cy hM aM sdM (upd M.1 0 0, M.2)) H := hP
  have hD : va_D A (wMd cy hM aM sdM (upd M.1 0 0, M.2)) := hD
  refine lv_aload_n hx hb dX6_share_5 rfl (lv_at hl 0 rfl) ?_
  refine lv_iload_n hx hb dX6_share_6 rfl (lv_at hl 1 rfl) ?_
  obtain ⟨r7, k7, hf⟩ := dk_bind hf
  refine dk_ri (va_runV (As := [.int v1]) (rest := []) ⟨hx, hb, hml, hown, hts⟩ (kX6_noSearcher l D cy hM aM sdM (upd M.1 0 0, M.2) v1 r7 k7) (cwV 1 hts gX6_share_X6_noSearcher rfl rfl rfl (by decide +kernel) ⟨Nat.le_of_ble_eq_true rfl, Nat.le_of_ble_eq_true rfl⟩) (dk_preV hK (hP.sub (ws' := wMd cy hM aM sdM (upd M.1 0 0, M.2)) [0, 1, 2, 3, 4, 5, 6, 7, 8, 9, 10, 11, 12, 13] rfl) (ci := 6) (q0 := 0) rfl rfl) rfl rfl hl.1 rfl (lv_room (Nat.le_of_ble_eq_true rfl)) dX6_share_7 ⟨Nat.zero_le _, Nat.zero_le _⟩) ?_
  refine dk_ieq (tgt := 15) hx hb dX6_share_10 (by decide) hf (fun hf => ?_) (fun hf => ?_)
  · refine lv_aload_n hx hb dX6_share_15 rfl (lv_at hl 0 rfl) ?_
    refine va_get (D := D) (ci := 6) (v := .ref (aM 16)) (C := RX6) (T := TX6) (N := 28) hx hb hts iX6_share_X6 hown hK.1 hP 0 rfl rfl 16 (by decide) (hts (.fieldLink RX6 29 "DarkPlaceModel" "page" "[I") (List.mem_of_getElem? (i := 2) rfl)) (fun _ h9 => h9) rfl dX6_share_16 ?_
    refine lv_iload_n hx hb dX6_share_19 rfl (lv_at hl 1 rfl) ?_
    obtain ⟨r20, k20, hf⟩ := dk_bind hf
    refine dk_ri (va_runS (As := [.ref (aM 16), .int v1]) (rest := []) ⟨hx, hb, hml, hown, hts⟩ (kX6_lives l D cy (aM 16) (M.2 16) v1 r20 k20) (va_cwS 2 hts gX6_share_X6_lives rfl rfl rfl (by decide +kernel) ⟨Nat.le_of_ble_eq_true rfl, Nat.le_of_ble_eq_true rfl⟩) (dk_preS hK (hP.sub (ws' := wRw cy (aM 16) 21 (M.2 16)) [4] rfl)) rfl rfl hl.1 rfl (lv_room (Nat.le_of_ble_eq_true rfl)) dX6_share_20 ⟨Nat.zero_le _, Nat.zero_le _⟩) ?_
    refine dk_ine (tgt := 29) hx hb dX6_share_23 (by decide) hf (fun hf => ?_) (fun hf => ?_)
    · refine lv_iconst (v := 0) hx hb dX6_share_29 (by decide) ?_
      refine lv_istore_n (lv' := [(3, .int 0), (0, .ref hM), (1, .int v1), (2, .int v2)]) hx hb dX6_share_30 rfl hl (by decide) rfl (fun ls hl => ?_)
      refine lv_iconst (v := 0) hx hb dX6_share_31 (by decide) ?_
      refine lv_istore (lv' := [(4, .int 0), (3, .int 0), (0, .ref hM), (1, .int v1), (2, .int v2)]) hx hb dX6_share_32 hl (by decide) rfl (fun ls hl => ?_)
      exact L34 1000 v1 v2 0 0 (upd M.1 0 0) (M.2 26) (M.2 17) _ _ _ hP hD hS (lv_sub hl [2, 3, 4, 1, 0] rfl) hf
    · refine lv_bipush (v := (-3)) hx hb dX6_share_26 (by decide) ?_
      have e := Option.some.inj hf
      simp only [Prod.mk.injEq] at e
      obtain ⟨e0, e1, e2, e3⟩ := e
      subst e1
      subst e2
      subst e3
      exact W.iret (v := (-3)) hx hb hr (fun t ht hW => ⟨⟨(-3), (), rfl, e0, by rw [ht]; exact hP, hD⟩, hS.F ht⟩) hS.2.2 dX6_share_28
  · refine lv_iconst (v := (-1)) hx hb dX6_share_13 (by decide) ?_
    have e := Option.some.inj hf
    simp only [Prod.mk.injEq] at e
    obtain ⟨e0, e1, e2, e3⟩ := e
    subst e1
    subst e2
    subst e3
    exact W.iret (v := (-1)) hx hb hr (fun t ht hW => ⟨⟨(-1), (), rfl, e0, by rw [ht]; exact hP, hD⟩, hS.F ht⟩) hS.2.2 dX6_share_14
theorem iX6_luck_X6 : ∀ w ∈ wsX60, w ∈ wsX6_luck := fun _ h => List.mem_cons_of_mem _ (List.mem_append_right _ h)
set_option maxHeartbeats 4000000 in
set_option maxRecDepth 100000 in
theorem kX6_luck (l : Launch) (D : va_G) (cy : Nat → ClassId) (hM : Nat) (aM : Nat → Nat) (sdM : Int64) (sz : Nat) (M : dk_O) (v1 : Int32) (v2 : Int32) (v3 : Int32) (r : Int32) (oM_I : (Nat → Int32)) (oM_26 : (Nat → Int32)) (oM_17 : (Nat → Int32)) (hf : fX6_luck M v1 v2 v3 = some (r, oM_I, oM_26, oM_17)) : dk_MuI l yX6_luck wsX6_luck ({ frames := 6, cells := 0, slots := 0, locals := 140 }) D cy [.ref hM, .int v1, .int v2, .int v3] (wMd cy hM aM sdM M) (wMd cy hM aM sdM (oM_I, dk_upA (dk_upA M.2 26 oM_26) 17 oM_17)) sz r := by
  refine Met.ofW (cc := cX6_luck) (maxL := 7) (ret := (some .int)) (by decide) rfl ?_
  intro p e s m args below meth c s₁ B hml hv
  obtain ⟨rfl, hsz, hP, hK, hD0⟩ := hv
  have hx := B.exec
  have hb := B.bytes
  have hr := B.returns
  have hts := atoms_spec (ws := wsX6_luck) B.pre
  have hown : s.vm.findClass RX6 = some m.cls := findClass_of_methodNamed B.named
  have hlocks := B.notSynchronized
  subst hsz
  have hD := hD0.self (sz := s.heap.size)
  generalize hAe : va_A (wMd cy hM aM sdM M) s.heap.size = A at hD ⊢
  have hA : ∀ q : Nat, s.heap.size ≤ q → A q := fun q h => by rw [← hAe]; exact Or.inr h
  have hS : va_S A s.heap s.heap [] := va_S.rf
  have hl := lv_entry ([.ref hM, .int v1, .int v2, .int v3]) (n := 7) (Nat.le_of_ble_eq_true rfl)
  rw [lg_entry_eq]
  generalize (lg_sl ([.ref hM, .int v1, .int v2, .int v3]) ++ List.replicate (7 - (lg_sl ([.ref hM, .int v1, .int v2, .int v3])).length) Slot.unset).toArray = ls at hl ⊢
  have hl : lv_has ls 7 [(0, .ref hM), (1, .int v1), (2, .int v2), (3, .int v3)] := hl
  have L52 : ∀ (fu52 : Nat) (x1 : Int32) (x2 : Int32) (x3 : Int32) (x4 : Int32) (x5 : Int32) (x6 : Int32) (M_I : (Nat → Int32)) (M_26 : (Nat → Int32)) (M_17 : (Nat → Int32)) (H : Heap) (locs : List Loc) (ls : Array Slot), va_P D vwCl (wMd cy hM aM sdM (M_I, dk_upA (dk_upA M.2 26 M_26) 17 M_17)) H → va_D A (wMd cy hM aM sdM (M_I, dk_upA (dk_upA M.2 26 M_26) 17 M_17)) → va_S A s.heap H locs → lv_has ls 7 [(0, .ref hM), (1, .int x1), (2, .int x2), (3, .int x3), (4, .int x4), (5, .int x5), (6, .int x6)] → fX6_luck_L52 M fu52 x1 x2 x3 x4 x5 x6 M_I M_26 M_17 = some (r, oM_I, oM_26, oM_17) → W p l e (headSpec wsX6_luck ({ frames := 6, cells := 0, slots := 0, locals := 140 })).room s m ([.ref hM, .int v1, .int v2, .int v3]).toArray below meth c H locs 0 0 (MQ below (va_Qi (fun (x : Int32) (_ : Unit) => x = r) (dk_B D (wMd cy hM aM sdM (oM_I, dk_upA (dk_upA M.2 26 oM_26) 17 oM_17)) A) A) ([.ref hM, .int v1, .int v2, .int v3]).toArray s 0 0 A) (F0 m 52 ls []) := by
    intro fu52
    induction fu52 with
    | zero =>
      intro x1 x2 x3 x4 x5 x6 M_I M_26 M_17 H locs ls hP hD hS hl hf
      rw [fX6_luck_L52] at hf
      cases hf
    | succ fu52 ih52 =>
      intro x1 x2 x3 x4 x5 x6 M_I M_26 M_17 H locs ls hP hD hS hl hf
      rw [fX6_luck_L52] at hf
      refine lv_iload hx hb dX6_luck_52 (lv_at hl 6 rfl) ?_
      refine lv_aload_n hx hb dX6_luck_54 rfl (lv_at hl 0 rfl) ?_
      refine va_get (D := D) (ci := 6) (v := .int (M_I 4)) (C := RX6) (T := TX6) (N := 28) hx hb hts iX6_luck_X6 hown hK.1 hP 0 rfl rfl 4 (by decide) (hts (.fieldLink RX6 13 "DarkPlaceModel" "places" "I") (List.mem_of_getElem? (i := 4) rfl)) (fun _ h9 => h9) rfl dX6_luck_55 ?_
      refine dk_cge (tgt := 98) hx hb dX6_luck_58 (by decide) hf (fun hf => ?_) (fun hf => ?_)
      · refine lv_iload hx hb dX6_luck_98 (lv_at hl 5 rfl) ?_
        refine lv_iload hx hb dX6_luck_100 (lv_at hl 4 rfl) ?_
        obtain ⟨r102, k102, hf⟩ := dk_bind hf
        refine dk_ri (va_runS (As := [.int x4]) (rest := [.int x5]) ⟨hx, hb, hml, hown, hts⟩ (kX6_ones l D cy x4 r102 k102) (va_cwS 1 hts gX6_luck_X6_ones rfl rfl rfl (by decide +kernel) ⟨Nat.le_of_ble_eq_true rfl, Nat.le_of_ble_eq_true rfl⟩) (dk_preS hK (hP.sub (ws' := []) [] rfl)) rfl rfl hl.1 rfl (lv_room (Nat.le_of_ble_eq_true rfl)) dX6_luck_102 ⟨Nat.zero_le _, Nat.zero_le _⟩) ?_
        refine lv_iload_n hx hb dX6_luck_105 rfl (lv_at hl 3 rfl) ?_
        obtain ⟨r106, k106, hf⟩ := dk_bind hf
        refine dk_ri (va_runS (As := [.int x5, .int r102, .int x3]) (rest := []) ⟨hx, hb, hml, hown, hts⟩ (kX6_fraction l D cy x5 r102 x3 r106 k106) (va_cwS 3 hts gX6_luck_X6_fraction rfl rfl rfl (by decide +kernel) ⟨Nat.le_of_ble_eq_true rfl, Nat.le_of_ble_eq_true rfl⟩) (dk_preS hK (hP.sub (ws' := []) [] rfl)) rfl rfl hl.1 rfl (lv_room (Nat.le_of_ble_eq_true rfl)) dX6_luck_106 ⟨Nat.zero_le _, Nat.zero_le _⟩) ?_
        have e := Option.some.inj hf
        simp only [Prod.mk.injEq] at e
        obtain ⟨e0, e1, e2, e3⟩ := e
        subst e1
        subst e2
        subst e3
        exact W.iret (v := r106) hx hb hr (fun t ht hW => ⟨⟨r106, (), rfl, e0, by rw [ht]; exact hP, hD⟩, hS.F ht⟩) hS.2.2 dX6_luck_109
      · refine lv_iload hx hb dX6_luck_61 (lv_at hl 5 rfl) ?_
        refine lv_iload hx hb dX6_luck_63 (lv_at hl 4 rfl) ?_
        refine lv_iload hx hb dX6_luck_65 (lv_at hl 6 rfl) ?_
        obtain ⟨r67, k67, hf⟩ := dk_bind hf
        refine dk_ri (va_runS (As := [.int x4, .int x6]) (rest := [.int x5]) ⟨hx, hb, hml, hown, hts⟩ (kX6_has l D cy x4 x6 r67 k67) (va_cwS 2 hts gX6_luck_X6_has rfl rfl rfl (by decide +kernel) ⟨Nat.le_of_ble_eq_true rfl, Nat.le_of_ble_eq_true rfl⟩) (dk_preS hK (hP.sub (ws' := []) [] rfl)) rfl rfl hl.1 rfl (lv_room (Nat.le_of_ble_eq_true rfl)) dX6_luck_67 ⟨Nat.zero_le _, Nat.zero_le _⟩) ?_
        refine dk_ieq (tgt := 88) hx hb dX6_luck_70 (by decide) hf (fun hf => ?_) (fun hf => ?_)
        · refine lv_iconst (v := 0) hx hb dX6_luck_88 (by decide) ?_
          refine lv_iadd hx hb dX6_luck_89 ?_
          refine lv_istore (lv' := [(5, .int (x5 + 0)), (0, .ref hM), (1, .int x1), (2, .int x2), (3, .int x3), (4, .int x4), (6, .int x6)]) hx hb dX6_luck_90 hl (by decide) rfl (fun ls hl => ?_)
          refine lv_iinc (v := x6 + 1) (lv' := [(6, .int (x6 + 1)), (5, .int (x5 + 0)), (0, .ref hM), (1, .int x1), (2, .int x2), (3, .int x3), (4, .int x4)]) hx hb dX6_luck_92 hl (k := 6) rfl rfl (by decide) rfl (fun ls hl => ?_)
          refine lv_goto (tgt := 52) hx hb dX6_luck_95 (by decide) ?_
          exact ih52 x1 x2 x3 x4 (x5 + 0) (x6 + 1) M_I M_26 M_17 _ _ _ hP hD hS (lv_sub hl [2, 3, 4, 5, 6, 1, 0] rfl) hf
        · refine lv_aload_n hx hb dX6_luck_73 rfl (lv_at hl 0 rfl) ?_
          refine lv_iload hx hb dX6_luck_74 (lv_at hl 6 rfl) ?_
          refine lv_iload_n hx hb dX6_luck_76 rfl (lv_at hl 1 rfl) ?_
          obtain ⟨⟨r77, g77_0, g77_1⟩, k77, hf⟩ := dk_bind hf
          dsimp only at hf
          have hPc := hP.sub (ws' := wMd cy hM aM sdM (M_I, dk_upA (dk_upA M.2 26 M_26) 17 M_17)) [0, 1, 2, 3, 4, 5, 6, 7, 8, 9, 10, 11, 12, 13] rfl
          have hDc := hD.sub (ws' := wMd cy hM aM sdM (M_I, dk_upA (dk_upA M.2 26 M_26) 17 M_17)) [0, 1, 2, 3, 4, 5, 6, 7, 8, 9, 10, 11, 12, 13] (by decide) rfl
          have hFc := va_free (wc := wMd cy hM aM sdM (M_I, dk_upA (dk_upA M.2 26 M_26) 17 M_17)) hD hS hA [0, 1, 2, 3, 4, 5, 6, 7, 8, 9, 10, 11, 12, 13] rfl
          refine va_calli (va_runV (As := [.int x6, .int x1]) (rest := [.int x5]) ⟨hx, hb, hml, hown, hts⟩ (kX6_livingBehind l D cy hM aM sdM H.size (M_I, dk_upA (dk_upA M.2 26 M_26) 17 M_17) x6 x1 r77 g77_0 g77_1 k77) (cwV 2 hts gX6_luck_X6_livingBehind rfl rfl rfl (by decide +kernel) ⟨Nat.le_of_ble_eq_true rfl, Nat.le_of_ble_eq_true rfl⟩) (dk_premV hK hPc hDc (ci := 6) (q0 := 0) rfl rfl) rfl rfl hl.1 rfl (lv_room (Nat.le_of_ble_eq_true rfl)) dX6_luck_77 ⟨Nat.zero_le _, Nat.zero_le _⟩) hS (fun q _ h => hFc q h) hFc (fun xr77 u t H1 locs ht hvm hw hB hz1 hk1 hS => ?_)
          obtain ⟨hP1, hD1⟩ := hB
          rw [ht] at hP1
          rw [hw]
          obtain ⟨hP, hD⟩ := va_join (wr := ([] : List Nat).filterMap (fun i => (wMd cy hM aM sdM (M_I, dk_upA (dk_upA M.2 26 M_26) 17 M_17))[i]?)) (w1 := wMd cy hM aM sdM (M_I, dk_upA (dk_upA M.2 26 g77_0) 17 g77_1)) hP hD [0, 1, 2, 3, 4, 5, 6, 7, 8, 9, 10, 11, 12, 13] [] rfl rfl (by decide) (by decide) hk1 hFc hP1 hD1
          generalize H1 = H at hP hS ⊢
          have hP : va_P D vwCl (wMd cy hM aM sdM (M_I, dk_upA (dk_upA M.2 26 g77_0) 17 g77_1)) H := hP.sub [0, 1, 2, 3, 4, 5, 6, 7, 8, 9, 10, 11, 12, 13] rfl
          have hD : va_D A (wMd cy hM aM sdM (M_I, dk_upA (dk_upA M.2 26 g77_0) 17 g77_1)) := hD.sub [0, 1, 2, 3, 4, 5, 6, 7, 8, 9, 10, 11, 12, 13] (by decide) rfl
          refine lv_iload_n hx hb dX6_luck_80 rfl (lv_at hl 2 rfl) ?_
          refine dk_clt (tgt := 88) hx hb dX6_luck_81 (by decide) hf (fun hf => ?_) (fun hf => ?_)
          · refine lv_iconst (v := 0) hx hb dX6_luck_88 (by decide) ?_
            refine lv_iadd hx hb dX6_luck_89 ?_
            refine lv_istore (lv' := [(5, .int (x5 + 0)), (0, .ref hM), (1, .int x1), (2, .int x2), (3, .int x3), (4, .int x4), (6, .int x6)]) hx hb dX6_luck_90 hl (by decide) rfl (fun ls hl => ?_)
            refine lv_iinc (v := x6 + 1) (lv' := [(6, .int (x6 + 1)), (5, .int (x5 + 0)), (0, .ref hM), (1, .int x1), (2, .int x2), (3, .int x3), (4, .int x4)]) hx hb dX6_luck_92 hl (k := 6) rfl rfl (by decide) rfl (fun ls hl => ?_)
            refine lv_goto (tgt := 52) hx hb dX6_luck_95 (by decide) ?_
            exact ih52 x1 x2 x3 x4 (x5 + 0) (x6 + 1) M_I g77_0 g77_1 _ _ _ hP hD hS (lv_sub hl [2, 3, 4, 5, 6, 1, 0] rfl) hf
          · refine lv_iconst (v := 1) hx hb dX6_luck_84 (by decide) ?_
            refine lv_goto (tgt := 89) hx hb dX6_luck_85 (by decide) ?_
            refine lv_iadd hx hb dX6_luck_89 ?_
            refine lv_istore (lv' := [(5, .int (x5 + 1)), (0, .ref hM), (1, .int x1), (2, .int x2), (3, .int x3), (4, .int x4), (6, .int x6)]) hx hb dX6_luck_90 hl (by decide) rfl (fun ls hl => ?_)
            refine lv_iinc (v := x6 + 1) (lv' := [(6, .int (x6 + 1)), (5, .int (x5 + 1)), (0, .ref hM), (1, .int x1), (2, .int x2), (3, .int x3), (4, .int x4)]) hx hb dX6_luck_92 hl (k := 6) rfl rfl (by decide) rfl (fun ls hl => ?_)
            refine lv_goto (tgt := 52) hx hb dX6_luck_95 (by decide) ?_
            exact ih52 x1 x2 x3 x4 (x5 + 1) (x6 + 1) M_I g77_0 g77_1 _ _ _ hP hD hS (lv_sub hl [2, 3, 4, 5, 6, 1, 0] rfl) hf
  unfold fX6_luck at hf
  refine lv_aload_n hx hb dX6_luck_0 rfl (lv_at hl 0 rfl) ?_
  refine lv_iconst (v := 0) hx hb dX6_luck_1 (by decide) ?_
  refine va_put (D := D) (ci := 6) (v := .int 0) (ty := .int) (C := RX6) (T := TX6) (N := 28) hx hb hts iX6_luck_X6 tyX6 tyX6_ok nmX6 hown hK.1 hP hD hS 0 rfl rfl 0 (by decide) (hts (.fieldLink RX6 61 "DarkPlaceModel" "thrown" "I") (List.mem_of_getElem? (i := 1) rfl)) (fun _ h9 => h9) rfl (by decide +kernel) rfl rfl (Nat.le_of_ble_eq_true rfl) dX6_luck_2 (fun H locs hP hD hS => ?_)
  have hP : va_P D vwCl (wMd cy hM aM sdM (upd M.1 0 0, M.2)) H := hP
  have hD : va_D A (wMd cy hM aM sdM (upd M.1 0 0, M.2)) := hD
  refine lv_iload_n hx hb dX6_luck_5 rfl (lv_at hl 1 rfl) ?_
  refine lv_i2l hx hb dX6_luck_6 rfl ?_
  refine lv_lconst (v := 0) hx hb dX6_luck_7 (by decide) ?_
  refine lv_ldc2 hx hb hown (hts (.constantLong RX6 222 (20)) (List.mem_of_getElem? (i := 2) rfl)) dX6_luck_8 ?_
  obtain ⟨r11, k11, hf⟩ := dk_bind hf
  refine dk_ri (va_runS (As := [.long v1.toInt64, .long 0, .long 20]) (rest := []) ⟨hx, hb, hml, hown, hts⟩ (kX6_in l D cy v1.toInt64 0 20 r11 k11) (va_cwS 3 hts gX6_luck_X6_in rfl rfl rfl (by decide +kernel) ⟨Nat.le_of_ble_eq_true rfl, Nat.le_of_ble_eq_true rfl⟩) (dk_preS hK (hP.sub (ws' := []) [] rfl)) rfl rfl hl.1 rfl (lv_room (Nat.le_of_ble_eq_true rfl)) dX6_luck_11 ⟨Nat.zero_le _, Nat.zero_le _⟩) ?_
  refine dk_ieq (tgt := 29) hx hb dX6_luck_14 (by decide) hf (fun hf => ?_) (fun hf => ?_)
  · refine lv_bipush (v := (-2)) hx hb dX6_luck_29 (by decide) ?_
    have e := Option.some.inj hf
    simp only [Prod.mk.injEq] at e
    obtain ⟨e0, e1, e2, e3⟩ := e
    subst e1
    subst e2
    subst e3
    exact W.iret (v := (-2)) hx hb hr (fun t ht hW => ⟨⟨(-2), (), rfl, e0, by rw [ht]; exact hP, hD⟩, hS.F ht⟩) hS.2.2 dX6_luck_31
  · refine lv_iload_n hx hb dX6_luck_17 rfl (lv_at hl 2 rfl) ?_
    refine lv_i2l hx hb dX6_luck_18 rfl ?_
    refine lv_lconst (v := 0) hx hb dX6_luck_19 (by decide) ?_
    refine lv_ldc2 hx hb hown (hts (.constantLong RX6 210 (4)) (List.mem_of_getElem? (i := 3) rfl)) dX6_luck_20 ?_
    obtain ⟨r23, k23, hf⟩ := dk_bind hf
    refine dk_ri (va_runS (As := [.long v2.toInt64, .long 0, .long 4]) (rest := []) ⟨hx, hb, hml, hown, hts⟩ (kX6_in l D cy v2.toInt64 0 4 r23 k23) (va_cwS 3 hts gX6_luck_X6_in rfl rfl rfl (by decide +kernel) ⟨Nat.le_of_ble_eq_true rfl, Nat.le_of_ble_eq_true rfl⟩) (dk_preS hK (hP.sub (ws' := []) [] rfl)) rfl rfl hl.1 rfl (lv_room (Nat.le_of_ble_eq_true rfl)) dX6_luck_23 ⟨Nat.zero_le _, Nat.zero_le _⟩) ?_
    refine dk_ine (tgt := 32) hx hb dX6_luck_26 (by decide) hf (fun hf => ?_) (fun hf => ?_)
    · refine lv_aload_n hx hb dX6_luck_32 rfl (lv_at hl 0 rfl) ?_
      obtain ⟨r33, k33, hf⟩ := dk_bind hf
      refine dk_ri (va_runV (As := []) (rest := []) ⟨hx, hb, hml, hown, hts⟩ (kX6_fated l D cy hM aM sdM (upd M.1 0 0, M.2) r33 k33) (cwV 0 hts gX6_luck_X6_fated rfl rfl rfl (by decide +kernel) ⟨Nat.le_of_ble_eq_true rfl, Nat.le_of_ble_eq_true rfl⟩) (dk_preV hK (hP.sub (ws' := wMd cy hM aM sdM (upd M.1 0 0, M.2)) [0, 1, 2, 3, 4, 5, 6, 7, 8, 9, 10, 11, 12, 13] rfl) (ci := 6) (q0 := 0) rfl rfl) rfl rfl hl.1 rfl (lv_room (Nat.le_of_ble_eq_true rfl)) dX6_luck_33 ⟨Nat.zero_le _, Nat.zero_le _⟩) ?_
      refine lv_istore (lv' := [(4, .int r33), (0, .ref hM), (1, .int v1), (2, .int v2), (3, .int v3)]) hx hb dX6_luck_36 hl (by decide) rfl (fun ls hl => ?_)
      refine lv_iload hx hb dX6_luck_38 (lv_at hl 0 rfl) ?_
      refine dk_ine (tgt := 46) hx hb dX6_luck_40 (by decide) hf (fun hf => ?_) (fun hf => ?_)
      · refine lv_iconst (v := 0) hx hb dX6_luck_46 (by decide) ?_
        refine lv_istore (lv' := [(5, .int 0), (4, .int r33), (0, .ref hM), (1, .int v1), (2, .int v2), (3, .int v3)]) hx hb dX6_luck_47 hl (by decide) rfl (fun ls hl => ?_)
        refine lv_iconst (v := 0) hx hb dX6_luck_49 (by decide) ?_
        refine lv_istore (lv' := [(6, .int 0), (5, .int 0), (4, .int r33), (0, .ref hM), (1, .int v1), (2, .int v2), (3, .int v3)]) hx hb dX6_luck_50 hl (by decide) rfl (fun ls hl => ?_)
        exact L52 1000 v1 v2 v3 r33 0 0 (upd M.1 0 0) (M.2 26) (M.2 17) _ _ _ hP hD hS (lv_sub hl [3, 4, 5, 6, 2, 1, 0] rfl) hf
      · refine lv_bipush (v := (-3)) hx hb dX6_luck_43 (by decide) ?_
        have e := Option.some.inj hf
        simp only [Prod.mk.injEq] at e
        obtain ⟨e0, e1, e2, e3⟩ := e
        subst e1
        subst e2
        subst e3
        exact W.iret (v := (-3)) hx hb hr (fun t ht hW => ⟨⟨(-3), (), rfl, e0, by rw [ht]; exact hP, hD⟩, hS.F ht⟩) hS.2.2 dX6_luck_45
    · refine lv_bipush (v := (-2)) hx hb dX6_luck_29 (by decide) ?_
      have e := Option.some.inj hf
      simp only [Prod.mk.injEq] at e
      obtain ⟨e0, e1, e2, e3⟩ := e
      subst e1
      subst e2
      subst e3
      exact W.iret (v := (-2)) hx hb hr (fun t ht hW => ⟨⟨(-2), (), rfl, e0, by rw [ht]; exact hP, hD⟩, hS.F ht⟩) hS.2.2 dX6_luck_31
theorem iX6_seed_X6 : ∀ w ∈ wsX60, w ∈ wsX6_seed := fun _ h => List.mem_cons_of_mem _ (List.mem_append_right _ h)
set_option maxHeartbeats 4000000 in
set_option maxRecDepth 100000 in
theorem kX6_seed (l : Launch) (D : va_G) (cy : Nat → ClassId) (hM : Nat) (aM : Nat → Nat) (sdM : Int64) (sz : Nat) (M : dk_O) (v1 : Int64) (r : Int64) (oM_I : (Nat → Int32)) (oM_sd : Int64) (hf : fX6_seed sdM M v1 = some (r, oM_I, oM_sd)) : dk_MuL l yX6_seed wsX6_seed ({ frames := 0, cells := 0, slots := 0, locals := 0 }) D cy [.ref hM, .long v1] (wMd cy hM aM sdM M) (wMd cy hM aM oM_sd (oM_I, M.2)) sz r := by
  refine Met.ofW (cc := cX6_seed) (maxL := 5) (ret := (some .long)) (by decide) rfl ?_
  intro p e s m args below meth c s₁ B hml hv
  obtain ⟨rfl, hsz, hP, hK, hD0⟩ := hv
  have hx := B.exec
  have hb := B.bytes
  have hr := B.returns
  have hts := atoms_spec (ws := wsX6_seed) B.pre
  have hown : s.vm.findClass RX6 = some m.cls := findClass_of_methodNamed B.named
  have hlocks := B.notSynchronized
  subst hsz
  have hD := hD0.self (sz := s.heap.size)
  generalize hAe : va_A (wMd cy hM aM sdM M) s.heap.size = A at hD ⊢
  have hA : ∀ q : Nat, s.heap.size ≤ q → A q := fun q h => by rw [← hAe]; exact Or.inr h
  have hS : va_S A s.heap s.heap [] := va_S.rf
  have hl := lv_entry ([.ref hM, .long v1]) (n := 5) (Nat.le_of_ble_eq_true rfl)
  rw [lg_entry_eq]
  generalize (lg_sl ([.ref hM, .long v1]) ++ List.replicate (5 - (lg_sl ([.ref hM, .long v1])).length) Slot.unset).toArray = ls at hl ⊢
  have hl : lv_has ls 5 [(0, .ref hM), (1, .long v1)] := hl
  unfold fX6_seed at hf
  refine lv_aload_n hx hb dX6_seed_0 rfl (lv_at hl 0 rfl) ?_
  refine lv_iconst (v := 0) hx hb dX6_seed_1 (by decide) ?_
  refine va_put (D := D) (ci := 6) (v := .int 0) (ty := .int) (C := RX6) (T := TX6) (N := 28) hx hb hts iX6_seed_X6 tyX6 tyX6_ok nmX6 hown hK.1 hP hD hS 0 rfl rfl 0 (by decide) (hts (.fieldLink RX6 61 "DarkPlaceModel" "thrown" "I") (List.mem_of_getElem? (i := 1) rfl)) (fun _ h9 => h9) rfl (by decide +kernel) rfl rfl (Nat.le_of_ble_eq_true rfl) dX6_seed_2 (fun H locs hP hD hS => ?_)
  have hP : va_P D vwCl (wMd cy hM aM sdM (upd M.1 0 0, M.2)) H := hP
  have hD : va_D A (wMd cy hM aM sdM (upd M.1 0 0, M.2)) := hD
  refine lv_aload_n hx hb dX6_seed_5 rfl (lv_at hl 0 rfl) ?_
  refine va_get (D := D) (ci := 6) (v := .long sdM) (C := RX6) (T := TX6) (N := 28) hx hb hts iX6_seed_X6 hown hK.1 hP 0 rfl rfl 25 (by decide) (hts (.fieldLink RX6 243 "DarkPlaceModel" "seed" "J") (List.mem_of_getElem? (i := 2) rfl)) (fun _ h9 => h9) rfl dX6_seed_6 ?_
  refine lv_lstore_n (lv' := [(3, .long sdM), (0, .ref hM), (1, .long v1)]) hx hb dX6_seed_9 rfl hl (by decide) rfl (fun ls hl => ?_)
  refine lv_aload_n hx hb dX6_seed_10 rfl (lv_at hl 1 rfl) ?_
  refine lv_lload_n hx hb dX6_seed_11 rfl (lv_at hl 2 rfl) ?_
  refine va_put (D := D) (ci := 6) (v := .long v1) (ty := .long) (C := RX6) (T := TX6) (N := 28) hx hb hts iX6_seed_X6 tyX6 tyX6_ok nmX6 hown hK.1 hP hD hS 0 rfl rfl 25 (by decide) (hts (.fieldLink RX6 243 "DarkPlaceModel" "seed" "J") (List.mem_of_getElem? (i := 2) rfl)) (fun _ h9 => h9) rfl (by decide +kernel) rfl rfl (Nat.le_of_ble_eq_true rfl) dX6_seed_12 (fun H locs hP hD hS => ?_)
  have hP : va_P D vwCl (wMd cy hM aM v1 (upd M.1 0 0, M.2)) H := hP
  have hD : va_D A (wMd cy hM aM v1 (upd M.1 0 0, M.2)) := hD
  refine lv_lload_n hx hb dX6_seed_15 rfl (lv_at hl 0 rfl) ?_
  have e := Option.some.inj hf
  simp only [Prod.mk.injEq] at e
  obtain ⟨e0, e1, e2⟩ := e
  subst e1
  subst e2
  exact W.lret (v := sdM) hx hb hr (fun t ht hW => ⟨⟨sdM, (), rfl, e0, by rw [ht]; exact hP, hD⟩, hS.F ht⟩) hS.2.2 dX6_seed_16
