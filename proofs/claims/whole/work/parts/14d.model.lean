-- printed by wip/gen (walks of the bytecode)
theorem iX6_step_X6 : ∀ w ∈ wsX60, w ∈ wsX6_step := fun _ h => List.mem_cons_of_mem _ (List.mem_append_right _ h)
set_option maxHeartbeats 4000000 in
set_option maxRecDepth 100000 in
theorem kX6_step (l : Launch) (D : va_G) (cy : Nat → ClassId) (hM : Nat) (aM : Nat → Nat) (sdM : Int64) (sz : Nat) (M : dk_O) (v1 : Int32) (v2 : Int32) (r : Int32) (oM_I : (Nat → Int32)) (oM_16 : (Nat → Int32)) (oM_18 : (Nat → Int32)) (hf : fX6_step M v1 v2 = some (r, oM_I, oM_16, oM_18)) : dk_MuI l yX6_step wsX6_step ({ frames := 3, cells := 0, slots := 0, locals := 69 }) D cy [.ref hM, .int v1, .int v2] (wMd cy hM aM sdM M) (wMd cy hM aM sdM (oM_I, dk_upA (dk_upA M.2 16 oM_16) 18 oM_18)) sz r := by
  refine Met.ofW (cc := cX6_step) (maxL := 3) (ret := (some .int)) (by decide) rfl ?_
  intro p e s m args below meth c s₁ B hml hv
  obtain ⟨rfl, hsz, hP, hK, hD0⟩ := hv
  have hx := B.exec
  have hb := B.bytes
  have hr := B.returns
  have hts := atoms_spec (ws := wsX6_step) B.pre
  have hown : s.vm.findClass RX6 = some m.cls := findClass_of_methodNamed B.named
  have hlocks := B.notSynchronized
  subst hsz
  have hD := hD0.self (sz := s.heap.size)
  generalize hAe : va_A (wMd cy hM aM sdM M) s.heap.size = A at hD ⊢
  have hA : ∀ q : Nat, s.heap.size ≤ q → A q := fun q h => by rw [← hAe]; exact Or.inr h
  have hS : va_S A s.heap s.heap [] := va_S.rf
  have hl := lv_entry ([.ref hM, .int v1, .int v2]) (n := 3) (Nat.le_of_ble_eq_true rfl)
  rw [lg_entry_eq]
  generalize (lg_sl ([.ref hM, .int v1, .int v2]) ++ List.replicate (3 - (lg_sl ([.ref hM, .int v1, .int v2])).length) Slot.unset).toArray = ls at hl ⊢
  have hl : lv_has ls 3 [(0, .ref hM), (1, .int v1), (2, .int v2)] := hl
  unfold fX6_step at hf
  refine lv_aload_n hx hb dX6_step_0 rfl (lv_at hl 0 rfl) ?_
  refine lv_iconst (v := 0) hx hb dX6_step_1 (by decide) ?_
  refine va_put (D := D) (ci := 6) (v := .int 0) (ty := .int) (C := RX6) (T := TX6) (N := 28) hx hb hts iX6_step_X6 tyX6 tyX6_ok nmX6 hown hK.1 hP hD hS 0 rfl rfl 0 (by decide) (hts (.fieldLink RX6 61 "DarkPlaceModel" "thrown" "I") (List.mem_of_getElem? (i := 1) rfl)) (fun _ h9 => h9) rfl (by decide +kernel) rfl rfl (Nat.le_of_ble_eq_true rfl) dX6_step_2 (fun H locs hP hD hS => ?_)
  have hP : va_P D vwCl (wMd cy hM aM sdM (upd M.1 0 0, M.2)) H := hP
  have hD : va_D A (wMd cy hM aM sdM (upd M.1 0 0, M.2)) := hD
  refine lv_aload_n hx hb dX6_step_5 rfl (lv_at hl 0 rfl) ?_
  refine lv_iload_n hx hb dX6_step_6 rfl (lv_at hl 1 rfl) ?_
  obtain ⟨r7, k7, hf⟩ := dk_bind hf
  refine dk_ri (va_runV (As := [.int v1]) (rest := []) ⟨hx, hb, hml, hown, hts⟩ (kX6_noSearcher l D cy hM aM sdM (upd M.1 0 0, M.2) v1 r7 k7) (cwV 1 hts gX6_step_X6_noSearcher rfl rfl rfl (by decide +kernel) ⟨Nat.le_of_ble_eq_true rfl, Nat.le_of_ble_eq_true rfl⟩) (dk_preV hK (hP.sub (ws' := wMd cy hM aM sdM (upd M.1 0 0, M.2)) [0, 1, 2, 3, 4, 5, 6, 7, 8, 9, 10, 11, 12, 13] rfl) (ci := 6) (q0 := 0) rfl rfl) rfl rfl hl.1 rfl (lv_room (Nat.le_of_ble_eq_true rfl)) dX6_step_7 ⟨Nat.zero_le _, Nat.zero_le _⟩) ?_
  refine dk_ine (tgt := 21) hx hb dX6_step_10 (by decide) hf (fun hf => ?_) (fun hf => ?_)
  · refine lv_iconst (v := (-1)) hx hb dX6_step_21 (by decide) ?_
    have e := Option.some.inj hf
    simp only [Prod.mk.injEq] at e
    obtain ⟨e0, e1, e2, e3⟩ := e
    subst e1
    subst e2
    subst e3
    exact W.iret (v := (-1)) hx hb hr (fun t ht hW => ⟨⟨(-1), (), rfl, e0, by rw [ht]; exact hP, hD⟩, hS.F ht⟩) hS.2.2 dX6_step_22
  · refine lv_aload_n hx hb dX6_step_13 rfl (lv_at hl 0 rfl) ?_
    refine lv_iload_n hx hb dX6_step_14 rfl (lv_at hl 2 rfl) ?_
    obtain ⟨r15, k15, hf⟩ := dk_bind hf
    refine dk_ri (va_runV (As := [.int v2]) (rest := []) ⟨hx, hb, hml, hown, hts⟩ (kX6_noEdge l D cy hM aM sdM (upd M.1 0 0, M.2) v2 r15 k15) (cwV 1 hts gX6_step_X6_noEdge rfl rfl rfl (by decide +kernel) ⟨Nat.le_of_ble_eq_true rfl, Nat.le_of_ble_eq_true rfl⟩) (dk_preV hK (hP.sub (ws' := wMs cy hM aM sdM (upd M.1 0 0, M.2)) [0, 1, 2, 3] rfl) (ci := 6) (q0 := 0) rfl rfl) rfl rfl hl.1 rfl (lv_room (Nat.le_of_ble_eq_true rfl)) dX6_step_15 ⟨Nat.zero_le _, Nat.zero_le _⟩) ?_
    refine dk_ieq (tgt := 23) hx hb dX6_step_18 (by decide) hf (fun hf => ?_) (fun hf => ?_)
    · refine lv_aload_n hx hb dX6_step_23 rfl (lv_at hl 0 rfl) ?_
      refine lv_aload_n hx hb dX6_step_24 rfl (lv_at hl 0 rfl) ?_
      refine va_get (D := D) (ci := 6) (v := .ref (aM 16)) (C := RX6) (T := TX6) (N := 28) hx hb hts iX6_step_X6 hown hK.1 hP 0 rfl rfl 16 (by decide) (hts (.fieldLink RX6 29 "DarkPlaceModel" "page" "[I") (List.mem_of_getElem? (i := 2) rfl)) (fun _ h9 => h9) rfl dX6_step_25 ?_
      refine lv_iload_n hx hb dX6_step_28 rfl (lv_at hl 1 rfl) ?_
      refine lv_iload_n hx hb dX6_step_29 rfl (lv_at hl 2 rfl) ?_
      obtain ⟨r30, k30, hf⟩ := dk_bind hf
      refine dk_ri (va_runV (As := [.ref (aM 16), .int v1, .int v2]) (rest := []) ⟨hx, hb, hml, hown, hts⟩ (kX6_canStep l D cy hM aM sdM (aM 16) (upd M.1 0 0, M.2) (M.2 16) v1 v2 r30 k30) (cwV 3 hts gX6_step_X6_canStep rfl rfl rfl (by decide +kernel) ⟨Nat.le_of_ble_eq_true rfl, Nat.le_of_ble_eq_true rfl⟩) (dk_preV hK (hP.sub (ws' := wMs cy hM aM sdM (upd M.1 0 0, M.2) ++ wRw cy (aM 16) 21 (M.2 16)) [0, 1, 2, 3, 4] rfl) (ci := 6) (q0 := 0) rfl rfl) rfl rfl hl.1 rfl (lv_room (Nat.le_of_ble_eq_true rfl)) dX6_step_30 ⟨Nat.zero_le _, Nat.zero_le _⟩) ?_
      refine dk_ine (tgt := 39) hx hb dX6_step_33 (by decide) hf (fun hf => ?_) (fun hf => ?_)
      · refine lv_aload_n hx hb dX6_step_39 rfl (lv_at hl 0 rfl) ?_
        obtain ⟨⟨i40_0, g40_1⟩, k40, hf⟩ := dk_bind hf
        dsimp only at hf
        have hPc := hP.sub (ws' := wMd cy hM aM sdM (upd M.1 0 0, M.2)) [0, 1, 2, 3, 4, 5, 6, 7, 8, 9, 10, 11, 12, 13] rfl
        have hDc := hD.sub (ws' := wMd cy hM aM sdM (upd M.1 0 0, M.2)) [0, 1, 2, 3, 4, 5, 6, 7, 8, 9, 10, 11, 12, 13] (by decide) rfl
        have hFc := va_free (wc := wMd cy hM aM sdM (upd M.1 0 0, M.2)) hD hS hA [0, 1, 2, 3, 4, 5, 6, 7, 8, 9, 10, 11, 12, 13] rfl
        refine va_callv (va_runV (As := []) (rest := []) ⟨hx, hb, hml, hown, hts⟩ (kX6_note l D cy hM aM sdM H.size (upd M.1 0 0, M.2) i40_0 g40_1 k40) (cwV 0 hts gX6_step_X6_note rfl rfl rfl (by decide +kernel) ⟨Nat.le_of_ble_eq_true rfl, Nat.le_of_ble_eq_true rfl⟩) (dk_premV hK hPc hDc (ci := 6) (q0 := 0) rfl rfl) rfl rfl hl.1 rfl (lv_room (Nat.le_of_ble_eq_true rfl)) dX6_step_40 ⟨Nat.zero_le _, Nat.zero_le _⟩) hS (fun q _ h => hFc q h) hFc (fun u t H1 locs ht hvm hw hB hz1 hk1 hS => ?_)
        obtain ⟨hP1, hD1⟩ := hB
        rw [ht] at hP1
        obtain ⟨hP, hD⟩ := va_join (wr := ([] : List Nat).filterMap (fun i => (wMd cy hM aM sdM (upd M.1 0 0, M.2))[i]?)) (w1 := wMd cy hM aM sdM (i40_0, dk_upA M.2 18 g40_1)) hP hD [0, 1, 2, 3, 4, 5, 6, 7, 8, 9, 10, 11, 12, 13] [] rfl rfl (by decide) (by decide) hk1 hFc hP1 hD1
        generalize H1 = H at hP hS ⊢
        have hP : va_P D vwCl (wMd cy hM aM sdM (i40_0, dk_upA M.2 18 g40_1)) H := hP.sub [0, 1, 2, 3, 4, 5, 6, 7, 8, 9, 10, 11, 12, 13] rfl
        have hD : va_D A (wMd cy hM aM sdM (i40_0, dk_upA M.2 18 g40_1)) := hD.sub [0, 1, 2, 3, 4, 5, 6, 7, 8, 9, 10, 11, 12, 13] (by decide) rfl
        refine lv_aload_n hx hb dX6_step_43 rfl (lv_at hl 0 rfl) ?_
        refine lv_aload_n hx hb dX6_step_44 rfl (lv_at hl 0 rfl) ?_
        refine va_get (D := D) (ci := 6) (v := .ref (aM 16)) (C := RX6) (T := TX6) (N := 28) hx hb hts iX6_step_X6 hown hK.1 hP 0 rfl rfl 16 (by decide) (hts (.fieldLink RX6 29 "DarkPlaceModel" "page" "[I") (List.mem_of_getElem? (i := 2) rfl)) (fun _ h9 => h9) rfl dX6_step_45 ?_
        refine lv_iload_n hx hb dX6_step_48 rfl (lv_at hl 1 rfl) ?_
        refine lv_iload_n hx hb dX6_step_49 rfl (lv_at hl 2 rfl) ?_
        obtain ⟨g50_0, k50, hf⟩ := dk_bind hf
        have hPc := hP.sub (ws' := wMs cy hM aM sdM (i40_0, dk_upA M.2 18 g40_1) ++ wRw cy (aM 16) 21 (M.2 16)) [0, 1, 2, 3, 4] rfl
        have hDc := hD.sub (ws' := wMs cy hM aM sdM (i40_0, dk_upA M.2 18 g40_1) ++ wRw cy (aM 16) 21 (M.2 16)) [0, 1, 2, 3, 4] (by decide) rfl
        have hFc := va_free (wc := wMs cy hM aM sdM (i40_0, dk_upA M.2 18 g40_1) ++ wRw cy (aM 16) 21 (M.2 16)) hD hS hA [0, 1, 2, 3, 4] rfl
        refine va_callv (va_runV (As := [.ref (aM 16), .int v1, .int v2]) (rest := []) ⟨hx, hb, hml, hown, hts⟩ (kX6_stepOn l D cy hM aM sdM (aM 16) H.size (i40_0, dk_upA M.2 18 g40_1) (M.2 16) v1 v2 g50_0 k50) (cwV 3 hts gX6_step_X6_stepOn rfl rfl rfl (by decide +kernel) ⟨Nat.le_of_ble_eq_true rfl, Nat.le_of_ble_eq_true rfl⟩) (dk_premV hK hPc hDc (ci := 6) (q0 := 0) rfl rfl) rfl rfl hl.1 rfl (lv_room (Nat.le_of_ble_eq_true rfl)) dX6_step_50 ⟨Nat.zero_le _, Nat.zero_le _⟩) hS (fun q _ h => hFc q h) hFc (fun u t H1 locs ht hvm hw hB hz1 hk1 hS => ?_)
        obtain ⟨hP1, hD1⟩ := hB
        rw [ht] at hP1
        obtain ⟨hP, hD⟩ := va_join (wr := ([5, 6, 7, 8, 9, 10, 11, 12, 13] : List Nat).filterMap (fun i => (wMd cy hM aM sdM (i40_0, dk_upA M.2 18 g40_1))[i]?)) (w1 := wMs cy hM aM sdM (i40_0, dk_upA (dk_upA M.2 16 g50_0) 18 g40_1) ++ wRw cy (aM 16) 21 g50_0) hP hD [0, 1, 2, 3, 4] [5, 6, 7, 8, 9, 10, 11, 12, 13] rfl rfl (by decide) (by decide) hk1 hFc hP1 hD1
        generalize H1 = H at hP hS ⊢
        have hP : va_P D vwCl (wMd cy hM aM sdM (i40_0, dk_upA (dk_upA M.2 16 g50_0) 18 g40_1)) H := hP.sub [9, 10, 11, 12, 13, 0, 1, 2, 3, 4, 5, 6, 7, 8] rfl
        have hD : va_D A (wMd cy hM aM sdM (i40_0, dk_upA (dk_upA M.2 16 g50_0) 18 g40_1)) := hD.sub [9, 10, 11, 12, 13, 0, 1, 2, 3, 4, 5, 6, 7, 8] (by decide) rfl
        refine lv_aload_n hx hb dX6_step_53 rfl (lv_at hl 0 rfl) ?_
        refine va_get (D := D) (ci := 6) (v := .ref (aM 16)) (C := RX6) (T := TX6) (N := 28) hx hb hts iX6_step_X6 hown hK.1 hP 0 rfl rfl 16 (by decide) (hts (.fieldLink RX6 29 "DarkPlaceModel" "page" "[I") (List.mem_of_getElem? (i := 2) rfl)) (fun _ h9 => h9) rfl dX6_step_54 ?_
        refine lv_iload_n hx hb dX6_step_57 rfl (lv_at hl 1 rfl) ?_
        obtain ⟨r58, k58, hf⟩ := dk_bind hf
        refine dk_ri (va_runS (As := [.ref (aM 16), .int v1]) (rest := []) ⟨hx, hb, hml, hown, hts⟩ (kX6_lives l D cy (aM 16) g50_0 v1 r58 k58) (va_cwS 2 hts gX6_step_X6_lives rfl rfl rfl (by decide +kernel) ⟨Nat.le_of_ble_eq_true rfl, Nat.le_of_ble_eq_true rfl⟩) (dk_preS hK (hP.sub (ws' := wRw cy (aM 16) 21 g50_0) [4] rfl)) rfl rfl hl.1 rfl (lv_room (Nat.le_of_ble_eq_true rfl)) dX6_step_58 ⟨Nat.zero_le _, Nat.zero_le _⟩) ?_
        refine dk_ieq (tgt := 75) hx hb dX6_step_61 (by decide) hf (fun hf => ?_) (fun hf => ?_)
        · refine lv_bipush (v := (-9)) hx hb dX6_step_75 (by decide) ?_
          have e := Option.some.inj hf
          simp only [Prod.mk.injEq] at e
          obtain ⟨e0, e1, e2, e3⟩ := e
          subst e1
          subst e2
          subst e3
          exact W.iret (v := (-9)) hx hb hr (fun t ht hW => ⟨⟨(-9), (), rfl, e0, by rw [ht]; exact hP, hD⟩, hS.F ht⟩) hS.2.2 dX6_step_77
        · refine lv_aload_n hx hb dX6_step_64 rfl (lv_at hl 0 rfl) ?_
          refine va_get (D := D) (ci := 6) (v := .ref (aM 16)) (C := RX6) (T := TX6) (N := 28) hx hb hts iX6_step_X6 hown hK.1 hP 0 rfl rfl 16 (by decide) (hts (.fieldLink RX6 29 "DarkPlaceModel" "page" "[I") (List.mem_of_getElem? (i := 2) rfl)) (fun _ h9 => h9) rfl dX6_step_65 ?_
          refine lv_iconst (v := 3) hx hb dX6_step_68 (by decide) ?_
          refine lv_iload_n hx hb dX6_step_69 rfl (lv_at hl 1 rfl) ?_
          refine lv_iadd hx hb dX6_step_70 ?_
          refine dk_iald hx hb hK.1 hP 4 0 rfl rfl hf dX6_step_71 (fun d71 hf => ?_)
          refine lv_goto (tgt := 77) hx hb dX6_step_72 (by decide) ?_
          have e := Option.some.inj hf
          simp only [Prod.mk.injEq] at e
          obtain ⟨e0, e1, e2, e3⟩ := e
          subst e1
          subst e2
          subst e3
          exact W.iret (v := d71) hx hb hr (fun t ht hW => ⟨⟨d71, (), rfl, e0, by rw [ht]; exact hP, hD⟩, hS.F ht⟩) hS.2.2 dX6_step_77
      · refine lv_bipush (v := (-3)) hx hb dX6_step_36 (by decide) ?_
        have e := Option.some.inj hf
        simp only [Prod.mk.injEq] at e
        obtain ⟨e0, e1, e2, e3⟩ := e
        subst e1
        subst e2
        subst e3
        exact W.iret (v := (-3)) hx hb hr (fun t ht hW => ⟨⟨(-3), (), rfl, e0, by rw [ht]; exact hP, hD⟩, hS.F ht⟩) hS.2.2 dX6_step_38
    · refine lv_iconst (v := (-1)) hx hb dX6_step_21 (by decide) ?_
      have e := Option.some.inj hf
      simp only [Prod.mk.injEq] at e
      obtain ⟨e0, e1, e2, e3⟩ := e
      subst e1
      subst e2
      subst e3
      exact W.iret (v := (-1)) hx hb hr (fun t ht hW => ⟨⟨(-1), (), rfl, e0, by rw [ht]; exact hP, hD⟩, hS.F ht⟩) hS.2.2 dX6_step_22
theorem iX6_round_X6 : ∀ w ∈ wsX60, w ∈ wsX6_round := fun _ h => List.mem_cons_of_mem _ (List.mem_append_right _ h)
set_option maxHeartbeats 4000000 in
set_option maxRecDepth 100000 in
theorem kX6_round (l : Launch) (D : va_G) (cy : Nat → ClassId) (hM : Nat) (aM : Nat → Nat) (sdM : Int64) (sz : Nat) (M : dk_O)  (r : Int32) (oM_I : (Nat → Int32)) (oM_26 : (Nat → Int32)) (oM_16 : (Nat → Int32)) (oM_18 : (Nat → Int32)) (hf : fX6_round M = some (r, oM_I, oM_26, oM_16, oM_18)) : dk_MuI l yX6_round wsX6_round ({ frames := 5, cells := 0, slots := 0, locals := 117 }) D cy [.ref hM] (wMd cy hM aM sdM M) (wMd cy hM aM sdM (oM_I, dk_upA (dk_upA (dk_upA M.2 26 oM_26) 16 oM_16) 18 oM_18)) sz r := by
  refine Met.ofW (cc := cX6_round) (maxL := 1) (ret := (some .int)) (by decide) rfl ?_
  intro p e s m args below meth c s₁ B hml hv
  obtain ⟨rfl, hsz, hP, hK, hD0⟩ := hv
  have hx := B.exec
  have hb := B.bytes
  have hr := B.returns
  have hts := atoms_spec (ws := wsX6_round) B.pre
  have hown : s.vm.findClass RX6 = some m.cls := findClass_of_methodNamed B.named
  have hlocks := B.notSynchronized
  subst hsz
  have hD := hD0.self (sz := s.heap.size)
  generalize hAe : va_A (wMd cy hM aM sdM M) s.heap.size = A at hD ⊢
  have hA : ∀ q : Nat, s.heap.size ≤ q → A q := fun q h => by rw [← hAe]; exact Or.inr h
  have hS : va_S A s.heap s.heap [] := va_S.rf
  have hl := lv_entry ([.ref hM]) (n := 1) (Nat.le_of_ble_eq_true rfl)
  rw [lg_entry_eq]
  generalize (lg_sl ([.ref hM]) ++ List.replicate (1 - (lg_sl ([.ref hM])).length) Slot.unset).toArray = ls at hl ⊢
  have hl : lv_has ls 1 [(0, .ref hM)] := hl
  unfold fX6_round at hf
  refine lv_aload_n hx hb dX6_round_0 rfl (lv_at hl 0 rfl) ?_
  refine lv_iconst (v := 0) hx hb dX6_round_1 (by decide) ?_
  refine va_put (D := D) (ci := 6) (v := .int 0) (ty := .int) (C := RX6) (T := TX6) (N := 28) hx hb hts iX6_round_X6 tyX6 tyX6_ok nmX6 hown hK.1 hP hD hS 0 rfl rfl 0 (by decide) (hts (.fieldLink RX6 61 "DarkPlaceModel" "thrown" "I") (List.mem_of_getElem? (i := 1) rfl)) (fun _ h9 => h9) rfl (by decide +kernel) rfl rfl (Nat.le_of_ble_eq_true rfl) dX6_round_2 (fun H locs hP hD hS => ?_)
  have hP : va_P D vwCl (wMd cy hM aM sdM (upd M.1 0 0, M.2)) H := hP
  have hD : va_D A (wMd cy hM aM sdM (upd M.1 0 0, M.2)) := hD
  refine lv_aload_n hx hb dX6_round_5 rfl (lv_at hl 0 rfl) ?_
  refine va_get (D := D) (ci := 6) (v := .ref (aM 16)) (C := RX6) (T := TX6) (N := 28) hx hb hts iX6_round_X6 hown hK.1 hP 0 rfl rfl 16 (by decide) (hts (.fieldLink RX6 29 "DarkPlaceModel" "page" "[I") (List.mem_of_getElem? (i := 2) rfl)) (fun _ h9 => h9) rfl dX6_round_6 ?_
  obtain ⟨r9, k9, hf⟩ := dk_bind hf
  refine dk_ri (va_runS (As := [.ref (aM 16)]) (rest := []) ⟨hx, hb, hml, hown, hts⟩ (kX6_living l D cy (aM 16) (M.2 16) r9 k9) (va_cwS 1 hts gX6_round_X6_living rfl rfl rfl (by decide +kernel) ⟨Nat.le_of_ble_eq_true rfl, Nat.le_of_ble_eq_true rfl⟩) (dk_preS hK (hP.sub (ws' := wRw cy (aM 16) 21 (M.2 16)) [4] rfl)) rfl rfl hl.1 rfl (lv_room (Nat.le_of_ble_eq_true rfl)) dX6_round_9 ⟨Nat.zero_le _, Nat.zero_le _⟩) ?_
  refine dk_ine (tgt := 18) hx hb dX6_round_12 (by decide) hf (fun hf => ?_) (fun hf => ?_)
  · refine lv_aload_n hx hb dX6_round_18 rfl (lv_at hl 0 rfl) ?_
    obtain ⟨⟨i19_0, g19_1⟩, k19, hf⟩ := dk_bind hf
    dsimp only at hf
    have hPc := hP.sub (ws' := wMd cy hM aM sdM (upd M.1 0 0, M.2)) [0, 1, 2, 3, 4, 5, 6, 7, 8, 9, 10, 11, 12, 13] rfl
    have hDc := hD.sub (ws' := wMd cy hM aM sdM (upd M.1 0 0, M.2)) [0, 1, 2, 3, 4, 5, 6, 7, 8, 9, 10, 11, 12, 13] (by decide) rfl
    have hFc := va_free (wc := wMd cy hM aM sdM (upd M.1 0 0, M.2)) hD hS hA [0, 1, 2, 3, 4, 5, 6, 7, 8, 9, 10, 11, 12, 13] rfl
    refine va_callv (va_runV (As := []) (rest := []) ⟨hx, hb, hml, hown, hts⟩ (kX6_note l D cy hM aM sdM H.size (upd M.1 0 0, M.2) i19_0 g19_1 k19) (cwV 0 hts gX6_round_X6_note rfl rfl rfl (by decide +kernel) ⟨Nat.le_of_ble_eq_true rfl, Nat.le_of_ble_eq_true rfl⟩) (dk_premV hK hPc hDc (ci := 6) (q0 := 0) rfl rfl) rfl rfl hl.1 rfl (lv_room (Nat.le_of_ble_eq_true rfl)) dX6_round_19 ⟨Nat.zero_le _, Nat.zero_le _⟩) hS (fun q _ h => hFc q h) hFc (fun u t H1 locs ht hvm hw hB hz1 hk1 hS => ?_)
    obtain ⟨hP1, hD1⟩ := hB
    rw [ht] at hP1
    obtain ⟨hP, hD⟩ := va_join (wr := ([] : List Nat).filterMap (fun i => (wMd cy hM aM sdM (upd M.1 0 0, M.2))[i]?)) (w1 := wMd cy hM aM sdM (i19_0, dk_upA M.2 18 g19_1)) hP hD [0, 1, 2, 3, 4, 5, 6, 7, 8, 9, 10, 11, 12, 13] [] rfl rfl (by decide) (by decide) hk1 hFc hP1 hD1
    generalize H1 = H at hP hS ⊢
    have hP : va_P D vwCl (wMd cy hM aM sdM (i19_0, dk_upA M.2 18 g19_1)) H := hP.sub [0, 1, 2, 3, 4, 5, 6, 7, 8, 9, 10, 11, 12, 13] rfl
    have hD : va_D A (wMd cy hM aM sdM (i19_0, dk_upA M.2 18 g19_1)) := hD.sub [0, 1, 2, 3, 4, 5, 6, 7, 8, 9, 10, 11, 12, 13] (by decide) rfl
    refine lv_aload_n hx hb dX6_round_22 rfl (lv_at hl 0 rfl) ?_
    refine lv_aload_n hx hb dX6_round_23 rfl (lv_at hl 0 rfl) ?_
    refine va_get (D := D) (ci := 6) (v := .ref (aM 16)) (C := RX6) (T := TX6) (N := 28) hx hb hts iX6_round_X6 hown hK.1 hP 0 rfl rfl 16 (by decide) (hts (.fieldLink RX6 29 "DarkPlaceModel" "page" "[I") (List.mem_of_getElem? (i := 2) rfl)) (fun _ h9 => h9) rfl dX6_round_24 ?_
    obtain ⟨⟨r27, g27_0, g27_1⟩, k27, hf⟩ := dk_bind hf
    dsimp only at hf
    have hPc := hP.sub (ws' := wMs cy hM aM sdM (i19_0, dk_upA M.2 18 g19_1) ++ wRw cy (aM 16) 21 (M.2 16)) [0, 1, 2, 3, 4] rfl
    have hDc := hD.sub (ws' := wMs cy hM aM sdM (i19_0, dk_upA M.2 18 g19_1) ++ wRw cy (aM 16) 21 (M.2 16)) [0, 1, 2, 3, 4] (by decide) rfl
    have hFc := va_free (wc := wMs cy hM aM sdM (i19_0, dk_upA M.2 18 g19_1) ++ wRw cy (aM 16) 21 (M.2 16)) hD hS hA [0, 1, 2, 3, 4] rfl
    refine va_calli (va_runV (As := [.ref (aM 16)]) (rest := []) ⟨hx, hb, hml, hown, hts⟩ (kX6_roundOn l D cy hM aM sdM (aM 16) H.size (i19_0, dk_upA M.2 18 g19_1) (M.2 16) r27 g27_0 g27_1 k27) (cwV 1 hts gX6_round_X6_roundOn rfl rfl rfl (by decide +kernel) ⟨Nat.le_of_ble_eq_true rfl, Nat.le_of_ble_eq_true rfl⟩) (dk_premV hK hPc hDc (ci := 6) (q0 := 0) rfl rfl) rfl rfl hl.1 rfl (lv_room (Nat.le_of_ble_eq_true rfl)) dX6_round_27 ⟨Nat.zero_le _, Nat.zero_le _⟩) hS (fun q _ h => hFc q h) hFc (fun xr27 u t H1 locs ht hvm hw hB hz1 hk1 hS => ?_)
    obtain ⟨hP1, hD1⟩ := hB
    rw [ht] at hP1
    rw [hw]
    obtain ⟨hP, hD⟩ := va_join (wr := ([5, 6, 7, 8, 9, 10, 11, 12, 13] : List Nat).filterMap (fun i => (wMd cy hM aM sdM (i19_0, dk_upA M.2 18 g19_1))[i]?)) (w1 := wMs cy hM aM sdM (i19_0, dk_upA (dk_upA (dk_upA M.2 26 g27_0) 16 g27_1) 18 g19_1) ++ wRw cy (aM 16) 21 g27_1) hP hD [0, 1, 2, 3, 4] [5, 6, 7, 8, 9, 10, 11, 12, 13] rfl rfl (by decide) (by decide) hk1 hFc hP1 hD1
    generalize H1 = H at hP hS ⊢
    have hP : va_P D vwCl (wMd cy hM aM sdM (i19_0, dk_upA (dk_upA (dk_upA M.2 26 g27_0) 16 g27_1) 18 g19_1)) H := hP.sub [9, 10, 11, 12, 13, 0, 1, 2, 3, 4, 5, 6, 7, 8] rfl
    have hD : va_D A (wMd cy hM aM sdM (i19_0, dk_upA (dk_upA (dk_upA M.2 26 g27_0) 16 g27_1) 18 g19_1)) := hD.sub [9, 10, 11, 12, 13, 0, 1, 2, 3, 4, 5, 6, 7, 8] (by decide) rfl
    have e := Option.some.inj hf
    simp only [Prod.mk.injEq] at e
    obtain ⟨e0, e1, e2, e3, e4⟩ := e
    subst e1
    subst e2
    subst e3
    subst e4
    exact W.iret (v := r27) hx hb hr (fun t ht hW => ⟨⟨r27, (), rfl, e0, by rw [ht]; exact hP, hD⟩, hS.F ht⟩) hS.2.2 dX6_round_30
  · refine lv_bipush (v := (-3)) hx hb dX6_round_15 (by decide) ?_
    have e := Option.some.inj hf
    simp only [Prod.mk.injEq] at e
    obtain ⟨e0, e1, e2, e3, e4⟩ := e
    subst e1
    subst e2
    subst e3
    subst e4
    exact W.iret (v := (-3)) hx hb hr (fun t ht hW => ⟨⟨(-3), (), rfl, e0, by rw [ht]; exact hP, hD⟩, hS.F ht⟩) hS.2.2 dX6_round_17
theorem iX6_join_X6 : ∀ w ∈ wsX60, w ∈ wsX6_join := fun _ h => List.mem_cons_of_mem _ (List.mem_append_right _ h)
set_option maxHeartbeats 4000000 in
set_option maxRecDepth 100000 in
theorem kX6_join (l : Launch) (D : va_G) (cy : Nat → ClassId) (hM : Nat) (aM : Nat → Nat) (sdM : Int64) (sz : Nat) (M : dk_O)  (r : Int32) (oM_I : (Nat → Int32)) (oM_16 : (Nat → Int32)) (oM_18 : (Nat → Int32)) (hf : fX6_join M = some (r, oM_I, oM_16, oM_18)) : dk_MuI l yX6_join wsX6_join ({ frames := 1, cells := 0, slots := 0, locals := 21 }) D cy [.ref hM] (wMd cy hM aM sdM M) (wMd cy hM aM sdM (oM_I, dk_upA (dk_upA M.2 16 oM_16) 18 oM_18)) sz r := by
  refine Met.ofW (cc := cX6_join) (maxL := 2) (ret := (some .int)) (by decide) rfl ?_
  intro p e s m args below meth c s₁ B hml hv
  obtain ⟨rfl, hsz, hP, hK, hD0⟩ := hv
  have hx := B.exec
  have hb := B.bytes
  have hr := B.returns
  have hts := atoms_spec (ws := wsX6_join) B.pre
  have hown : s.vm.findClass RX6 = some m.cls := findClass_of_methodNamed B.named
  have hlocks := B.notSynchronized
  subst hsz
  have hD := hD0.self (sz := s.heap.size)
  generalize hAe : va_A (wMd cy hM aM sdM M) s.heap.size = A at hD ⊢
  have hA : ∀ q : Nat, s.heap.size ≤ q → A q := fun q h => by rw [← hAe]; exact Or.inr h
  have hS : va_S A s.heap s.heap [] := va_S.rf
  have hl := lv_entry ([.ref hM]) (n := 2) (Nat.le_of_ble_eq_true rfl)
  rw [lg_entry_eq]
  generalize (lg_sl ([.ref hM]) ++ List.replicate (2 - (lg_sl ([.ref hM])).length) Slot.unset).toArray = ls at hl ⊢
  have hl : lv_has ls 2 [(0, .ref hM)] := hl
  unfold fX6_join at hf
  refine lv_aload_n hx hb dX6_join_0 rfl (lv_at hl 0 rfl) ?_
  refine lv_iconst (v := 0) hx hb dX6_join_1 (by decide) ?_
  refine va_put (D := D) (ci := 6) (v := .int 0) (ty := .int) (C := RX6) (T := TX6) (N := 28) hx hb hts iX6_join_X6 tyX6 tyX6_ok nmX6 hown hK.1 hP hD hS 0 rfl rfl 0 (by decide) (hts (.fieldLink RX6 61 "DarkPlaceModel" "thrown" "I") (List.mem_of_getElem? (i := 1) rfl)) (fun _ h9 => h9) rfl (by decide +kernel) rfl rfl (Nat.le_of_ble_eq_true rfl) dX6_join_2 (fun H locs hP hD hS => ?_)
  have hP : va_P D vwCl (wMd cy hM aM sdM (upd M.1 0 0, M.2)) H := hP
  have hD : va_D A (wMd cy hM aM sdM (upd M.1 0 0, M.2)) := hD
  refine lv_aload_n hx hb dX6_join_5 rfl (lv_at hl 0 rfl) ?_
  refine va_get (D := D) (ci := 6) (v := .ref (aM 16)) (C := RX6) (T := TX6) (N := 28) hx hb hts iX6_join_X6 hown hK.1 hP 0 rfl rfl 16 (by decide) (hts (.fieldLink RX6 29 "DarkPlaceModel" "page" "[I") (List.mem_of_getElem? (i := 2) rfl)) (fun _ h9 => h9) rfl dX6_join_6 ?_
  refine lv_iconst (v := 1) hx hb dX6_join_9 (by decide) ?_
  refine dk_iald hx hb hK.1 hP 4 0 rfl rfl hf dX6_join_10 (fun d10 hf => ?_)
  refine lv_iconst (v := 4) hx hb dX6_join_11 (by decide) ?_
  refine dk_cne (tgt := 18) hx hb dX6_join_12 (by decide) hf (fun hf => ?_) (fun hf => ?_)
  · refine lv_aload_n hx hb dX6_join_18 rfl (lv_at hl 0 rfl) ?_
    obtain ⟨⟨i19_0, g19_1⟩, k19, hf⟩ := dk_bind hf
    dsimp only at hf
    have hPc := hP.sub (ws' := wMd cy hM aM sdM (upd M.1 0 0, M.2)) [0, 1, 2, 3, 4, 5, 6, 7, 8, 9, 10, 11, 12, 13] rfl
    have hDc := hD.sub (ws' := wMd cy hM aM sdM (upd M.1 0 0, M.2)) [0, 1, 2, 3, 4, 5, 6, 7, 8, 9, 10, 11, 12, 13] (by decide) rfl
    have hFc := va_free (wc := wMd cy hM aM sdM (upd M.1 0 0, M.2)) hD hS hA [0, 1, 2, 3, 4, 5, 6, 7, 8, 9, 10, 11, 12, 13] rfl
    refine va_callv (va_runV (As := []) (rest := []) ⟨hx, hb, hml, hown, hts⟩ (kX6_note l D cy hM aM sdM H.size (upd M.1 0 0, M.2) i19_0 g19_1 k19) (cwV 0 hts gX6_join_X6_note rfl rfl rfl (by decide +kernel) ⟨Nat.le_of_ble_eq_true rfl, Nat.le_of_ble_eq_true rfl⟩) (dk_premV hK hPc hDc (ci := 6) (q0 := 0) rfl rfl) rfl rfl hl.1 rfl (lv_room (Nat.le_of_ble_eq_true rfl)) dX6_join_19 ⟨Nat.zero_le _, Nat.zero_le _⟩) hS (fun q _ h => hFc q h) hFc (fun u t H1 locs ht hvm hw hB hz1 hk1 hS => ?_)
    obtain ⟨hP1, hD1⟩ := hB
    rw [ht] at hP1
    obtain ⟨hP, hD⟩ := va_join (wr := ([] : List Nat).filterMap (fun i => (wMd cy hM aM sdM (upd M.1 0 0, M.2))[i]?)) (w1 := wMd cy hM aM sdM (i19_0, dk_upA M.2 18 g19_1)) hP hD [0, 1, 2, 3, 4, 5, 6, 7, 8, 9, 10, 11, 12, 13] [] rfl rfl (by decide) (by decide) hk1 hFc hP1 hD1
    generalize H1 = H at hP hS ⊢
    have hP : va_P D vwCl (wMd cy hM aM sdM (i19_0, dk_upA M.2 18 g19_1)) H := hP.sub [0, 1, 2, 3, 4, 5, 6, 7, 8, 9, 10, 11, 12, 13] rfl
    have hD : va_D A (wMd cy hM aM sdM (i19_0, dk_upA M.2 18 g19_1)) := hD.sub [0, 1, 2, 3, 4, 5, 6, 7, 8, 9, 10, 11, 12, 13] (by decide) rfl
    refine lv_aload_n hx hb dX6_join_22 rfl (lv_at hl 0 rfl) ?_
    refine va_get (D := D) (ci := 6) (v := .ref (aM 16)) (C := RX6) (T := TX6) (N := 28) hx hb hts iX6_join_X6 hown hK.1 hP 0 rfl rfl 16 (by decide) (hts (.fieldLink RX6 29 "DarkPlaceModel" "page" "[I") (List.mem_of_getElem? (i := 2) rfl)) (fun _ h9 => h9) rfl dX6_join_23 ?_
    refine lv_iconst (v := 1) hx hb dX6_join_26 (by decide) ?_
    refine dk_iald hx hb hK.1 hP 4 0 rfl rfl hf dX6_join_27 (fun d27 hf => ?_)
    refine lv_istore_n (lv' := [(1, .int d27), (0, .ref hM)]) hx hb dX6_join_28 rfl hl (by decide) rfl (fun ls hl => ?_)
    refine lv_aload_n hx hb dX6_join_29 rfl (lv_at hl 1 rfl) ?_
    refine va_get (D := D) (ci := 6) (v := .ref (aM 16)) (C := RX6) (T := TX6) (N := 28) hx hb hts iX6_join_X6 hown hK.1 hP 0 rfl rfl 16 (by decide) (hts (.fieldLink RX6 29 "DarkPlaceModel" "page" "[I") (List.mem_of_getElem? (i := 2) rfl)) (fun _ h9 => h9) rfl dX6_join_30 ?_
    refine lv_iconst (v := 3) hx hb dX6_join_33 (by decide) ?_
    refine lv_iload_n hx hb dX6_join_34 rfl (lv_at hl 0 rfl) ?_
    refine lv_iadd hx hb dX6_join_35 ?_
    refine lv_aload_n hx hb dX6_join_36 rfl (lv_at hl 1 rfl) ?_
    refine va_get (D := D) (ci := 6) (v := .int (i19_0 5)) (C := RX6) (T := TX6) (N := 28) hx hb hts iX6_join_X6 hown hK.1 hP 0 rfl rfl 5 (by decide) (hts (.fieldLink RX6 64 "DarkPlaceModel" "home" "I") (List.mem_of_getElem? (i := 3) rfl)) (fun _ h9 => h9) rfl dX6_join_37 ?_
    refine dk_iast hx hb hK.1 hP hD hS 4 0 rfl rfl hf dX6_join_40 (fun f40 H locs hP hD hS hf => ?_)
    have hP : va_P D vwCl (wMd cy hM aM sdM (i19_0, dk_upA (dk_upA M.2 16 f40) 18 g19_1)) H := hP
    have hD : va_D A (wMd cy hM aM sdM (i19_0, dk_upA (dk_upA M.2 16 f40) 18 g19_1)) := hD
    refine lv_aload_n hx hb dX6_join_41 rfl (lv_at hl 1 rfl) ?_
    refine va_get (D := D) (ci := 6) (v := .ref (aM 16)) (C := RX6) (T := TX6) (N := 28) hx hb hts iX6_join_X6 hown hK.1 hP 0 rfl rfl 16 (by decide) (hts (.fieldLink RX6 29 "DarkPlaceModel" "page" "[I") (List.mem_of_getElem? (i := 2) rfl)) (fun _ h9 => h9) rfl dX6_join_42 ?_
    refine lv_bipush (v := 7) hx hb dX6_join_45 (by decide) ?_
    refine lv_iload_n hx hb dX6_join_47 rfl (lv_at hl 0 rfl) ?_
    refine lv_iadd hx hb dX6_join_48 ?_
    refine lv_iconst (v := 0) hx hb dX6_join_49 (by decide) ?_
    refine dk_iast hx hb hK.1 hP hD hS 4 0 rfl rfl hf dX6_join_50 (fun f50 H locs hP hD hS hf => ?_)
    have hP : va_P D vwCl (wMd cy hM aM sdM (i19_0, dk_upA (dk_upA M.2 16 f50) 18 g19_1)) H := hP
    have hD : va_D A (wMd cy hM aM sdM (i19_0, dk_upA (dk_upA M.2 16 f50) 18 g19_1)) := hD
    refine lv_aload_n hx hb dX6_join_51 rfl (lv_at hl 1 rfl) ?_
    refine va_get (D := D) (ci := 6) (v := .ref (aM 16)) (C := RX6) (T := TX6) (N := 28) hx hb hts iX6_join_X6 hown hK.1 hP 0 rfl rfl 16 (by decide) (hts (.fieldLink RX6 29 "DarkPlaceModel" "page" "[I") (List.mem_of_getElem? (i := 2) rfl)) (fun _ h9 => h9) rfl dX6_join_52 ?_
    refine lv_iconst (v := 1) hx hb dX6_join_55 (by decide) ?_
    refine lv_dup2_11 hx hb dX6_join_56 rfl rfl ?_
    refine dk_iald hx hb hK.1 hP 4 0 rfl rfl hf dX6_join_57 (fun d57 hf => ?_)
    refine lv_iconst (v := 1) hx hb dX6_join_58 (by decide) ?_
    refine lv_iadd hx hb dX6_join_59 ?_
    refine dk_iast hx hb hK.1 hP hD hS 4 0 rfl rfl hf dX6_join_60 (fun f60 H locs hP hD hS hf => ?_)
    have hP : va_P D vwCl (wMd cy hM aM sdM (i19_0, dk_upA (dk_upA M.2 16 f60) 18 g19_1)) H := hP
    have hD : va_D A (wMd cy hM aM sdM (i19_0, dk_upA (dk_upA M.2 16 f60) 18 g19_1)) := hD
    refine lv_iload_n hx hb dX6_join_61 rfl (lv_at hl 0 rfl) ?_
    have e := Option.some.inj hf
    simp only [Prod.mk.injEq] at e
    obtain ⟨e0, e1, e2, e3⟩ := e
    subst e1
    subst e2
    subst e3
    exact W.iret (v := d27) hx hb hr (fun t ht hW => ⟨⟨d27, (), rfl, e0, by rw [ht]; exact hP, hD⟩, hS.F ht⟩) hS.2.2 dX6_join_62
  · refine lv_bipush (v := (-4)) hx hb dX6_join_15 (by decide) ?_
    have e := Option.some.inj hf
    simp only [Prod.mk.injEq] at e
    obtain ⟨e0, e1, e2, e3⟩ := e
    subst e1
    subst e2
    subst e3
    exact W.iret (v := (-4)) hx hb hr (fun t ht hW => ⟨⟨(-4), (), rfl, e0, by rw [ht]; exact hP, hD⟩, hS.F ht⟩) hS.2.2 dX6_join_17
theorem iX6_hide_X6 : ∀ w ∈ wsX60, w ∈ wsX6_hide := fun _ h => List.mem_cons_of_mem _ (List.mem_append_right _ h)
set_option maxHeartbeats 4000000 in
set_option maxRecDepth 100000 in
theorem kX6_hide (l : Launch) (D : va_G) (cy : Nat → ClassId) (hM : Nat) (aM : Nat → Nat) (sdM : Int64) (sz : Nat) (M : dk_O) (v1 : Int32) (r : Int32) (oM_I : (Nat → Int32)) (oM_16 : (Nat → Int32)) (oM_18 : (Nat → Int32)) (hf : fX6_hide M v1 = some (r, oM_I, oM_16, oM_18)) : dk_MuI l yX6_hide wsX6_hide ({ frames := 3, cells := 0, slots := 0, locals := 68 }) D cy [.ref hM, .int v1] (wMd cy hM aM sdM M) (wMd cy hM aM sdM (oM_I, dk_upA (dk_upA M.2 16 oM_16) 18 oM_18)) sz r := by
  refine Met.ofW (cc := cX6_hide) (maxL := 3) (ret := (some .int)) (by decide) rfl ?_
  intro p e s m args below meth c s₁ B hml hv
  obtain ⟨rfl, hsz, hP, hK, hD0⟩ := hv
  have hx := B.exec
  have hb := B.bytes
  have hr := B.returns
  have hts := atoms_spec (ws := wsX6_hide) B.pre
  have hown : s.vm.findClass RX6 = some m.cls := findClass_of_methodNamed B.named
  have hlocks := B.notSynchronized
  subst hsz
  have hD := hD0.self (sz := s.heap.size)
  generalize hAe : va_A (wMd cy hM aM sdM M) s.heap.size = A at hD ⊢
  have hA : ∀ q : Nat, s.heap.size ≤ q → A q := fun q h => by rw [← hAe]; exact Or.inr h
  have hS : va_S A s.heap s.heap [] := va_S.rf
  have hl := lv_entry ([.ref hM, .int v1]) (n := 3) (Nat.le_of_ble_eq_true rfl)
  rw [lg_entry_eq]
  generalize (lg_sl ([.ref hM, .int v1]) ++ List.replicate (3 - (lg_sl ([.ref hM, .int v1])).length) Slot.unset).toArray = ls at hl ⊢
  have hl : lv_has ls 3 [(0, .ref hM), (1, .int v1)] := hl
  unfold fX6_hide at hf
  refine lv_aload_n hx hb dX6_hide_0 rfl (lv_at hl 0 rfl) ?_
  refine lv_iconst (v := 0) hx hb dX6_hide_1 (by decide) ?_
  refine va_put (D := D) (ci := 6) (v := .int 0) (ty := .int) (C := RX6) (T := TX6) (N := 28) hx hb hts iX6_hide_X6 tyX6 tyX6_ok nmX6 hown hK.1 hP hD hS 0 rfl rfl 0 (by decide) (hts (.fieldLink RX6 61 "DarkPlaceModel" "thrown" "I") (List.mem_of_getElem? (i := 1) rfl)) (fun _ h9 => h9) rfl (by decide +kernel) rfl rfl (Nat.le_of_ble_eq_true rfl) dX6_hide_2 (fun H locs hP hD hS => ?_)
  have hP : va_P D vwCl (wMd cy hM aM sdM (upd M.1 0 0, M.2)) H := hP
  have hD : va_D A (wMd cy hM aM sdM (upd M.1 0 0, M.2)) := hD
  refine lv_aload_n hx hb dX6_hide_5 rfl (lv_at hl 0 rfl) ?_
  refine lv_iload_n hx hb dX6_hide_6 rfl (lv_at hl 1 rfl) ?_
  obtain ⟨r7, k7, hf⟩ := dk_bind hf
  refine dk_ri (va_runV (As := [.int v1]) (rest := []) ⟨hx, hb, hml, hown, hts⟩ (kX6_noPlace l D cy hM aM sdM (upd M.1 0 0, M.2) v1 r7 k7) (cwV 1 hts gX6_hide_X6_noPlace rfl rfl rfl (by decide +kernel) ⟨Nat.le_of_ble_eq_true rfl, Nat.le_of_ble_eq_true rfl⟩) (dk_preV hK (hP.sub (ws' := wMs cy hM aM sdM (upd M.1 0 0, M.2)) [0, 1, 2, 3] rfl) (ci := 6) (q0 := 0) rfl rfl) rfl rfl hl.1 rfl (lv_room (Nat.le_of_ble_eq_true rfl)) dX6_hide_7 ⟨Nat.zero_le _, Nat.zero_le _⟩) ?_
  refine dk_ieq (tgt := 15) hx hb dX6_hide_10 (by decide) hf (fun hf => ?_) (fun hf => ?_)
  · refine lv_iload_n hx hb dX6_hide_15 rfl (lv_at hl 1 rfl) ?_
    refine lv_aload_n hx hb dX6_hide_16 rfl (lv_at hl 0 rfl) ?_
    refine va_get (D := D) (ci := 6) (v := .ref (aM 16)) (C := RX6) (T := TX6) (N := 28) hx hb hts iX6_hide_X6 hown hK.1 hP 0 rfl rfl 16 (by decide) (hts (.fieldLink RX6 29 "DarkPlaceModel" "page" "[I") (List.mem_of_getElem? (i := 2) rfl)) (fun _ h9 => h9) rfl dX6_hide_17 ?_
    refine lv_iconst (v := 0) hx hb dX6_hide_20 (by decide) ?_
    refine dk_iald hx hb hK.1 hP 4 0 rfl rfl hf dX6_hide_21 (fun d21 hf => ?_)
    refine dk_ceq (tgt := 37) hx hb dX6_hide_22 (by decide) hf (fun hf => ?_) (fun hf => ?_)
    · refine lv_bipush (v := (-3)) hx hb dX6_hide_37 (by decide) ?_
      have e := Option.some.inj hf
      simp only [Prod.mk.injEq] at e
      obtain ⟨e0, e1, e2, e3⟩ := e
      subst e1
      subst e2
      subst e3
      exact W.iret (v := (-3)) hx hb hr (fun t ht hW => ⟨⟨(-3), (), rfl, e0, by rw [ht]; exact hP, hD⟩, hS.F ht⟩) hS.2.2 dX6_hide_39
    · refine lv_aload_n hx hb dX6_hide_25 rfl (lv_at hl 0 rfl) ?_
      refine lv_aload_n hx hb dX6_hide_26 rfl (lv_at hl 0 rfl) ?_
      refine va_get (D := D) (ci := 6) (v := .ref (aM 16)) (C := RX6) (T := TX6) (N := 28) hx hb hts iX6_hide_X6 hown hK.1 hP 0 rfl rfl 16 (by decide) (hts (.fieldLink RX6 29 "DarkPlaceModel" "page" "[I") (List.mem_of_getElem? (i := 2) rfl)) (fun _ h9 => h9) rfl dX6_hide_27 ?_
      refine lv_iload_n hx hb dX6_hide_30 rfl (lv_at hl 1 rfl) ?_
      obtain ⟨r31, k31, hf⟩ := dk_bind hf
      refine dk_ri (va_runV (As := [.ref (aM 16), .int v1]) (rest := []) ⟨hx, hb, hml, hown, hts⟩ (kX6_isFree l D cy hM aM sdM (aM 16) (upd M.1 0 0, M.2) (M.2 16) v1 r31 k31) (cwV 2 hts gX6_hide_X6_isFree rfl rfl rfl (by decide +kernel) ⟨Nat.le_of_ble_eq_true rfl, Nat.le_of_ble_eq_true rfl⟩) (dk_preV hK (hP.sub (ws' := wMs cy hM aM sdM (upd M.1 0 0, M.2) ++ wRw cy (aM 16) 21 (M.2 16)) [0, 1, 2, 3, 4] rfl) (ci := 6) (q0 := 0) rfl rfl) rfl rfl hl.1 rfl (lv_room (Nat.le_of_ble_eq_true rfl)) dX6_hide_31 ⟨Nat.zero_le _, Nat.zero_le _⟩) ?_
      refine dk_ine (tgt := 40) hx hb dX6_hide_34 (by decide) hf (fun hf => ?_) (fun hf => ?_)
      · refine lv_aload_n hx hb dX6_hide_40 rfl (lv_at hl 0 rfl) ?_
        obtain ⟨⟨i41_0, g41_1⟩, k41, hf⟩ := dk_bind hf
        dsimp only at hf
        have hPc := hP.sub (ws' := wMd cy hM aM sdM (upd M.1 0 0, M.2)) [0, 1, 2, 3, 4, 5, 6, 7, 8, 9, 10, 11, 12, 13] rfl
        have hDc := hD.sub (ws' := wMd cy hM aM sdM (upd M.1 0 0, M.2)) [0, 1, 2, 3, 4, 5, 6, 7, 8, 9, 10, 11, 12, 13] (by decide) rfl
        have hFc := va_free (wc := wMd cy hM aM sdM (upd M.1 0 0, M.2)) hD hS hA [0, 1, 2, 3, 4, 5, 6, 7, 8, 9, 10, 11, 12, 13] rfl
        refine va_callv (va_runV (As := []) (rest := []) ⟨hx, hb, hml, hown, hts⟩ (kX6_note l D cy hM aM sdM H.size (upd M.1 0 0, M.2) i41_0 g41_1 k41) (cwV 0 hts gX6_hide_X6_note rfl rfl rfl (by decide +kernel) ⟨Nat.le_of_ble_eq_true rfl, Nat.le_of_ble_eq_true rfl⟩) (dk_premV hK hPc hDc (ci := 6) (q0 := 0) rfl rfl) rfl rfl hl.1 rfl (lv_room (Nat.le_of_ble_eq_true rfl)) dX6_hide_41 ⟨Nat.zero_le _, Nat.zero_le _⟩) hS (fun q _ h => hFc q h) hFc (fun u t H1 locs ht hvm hw hB hz1 hk1 hS => ?_)
        obtain ⟨hP1, hD1⟩ := hB
        rw [ht] at hP1
        obtain ⟨hP, hD⟩ := va_join (wr := ([] : List Nat).filterMap (fun i => (wMd cy hM aM sdM (upd M.1 0 0, M.2))[i]?)) (w1 := wMd cy hM aM sdM (i41_0, dk_upA M.2 18 g41_1)) hP hD [0, 1, 2, 3, 4, 5, 6, 7, 8, 9, 10, 11, 12, 13] [] rfl rfl (by decide) (by decide) hk1 hFc hP1 hD1
        generalize H1 = H at hP hS ⊢
        have hP : va_P D vwCl (wMd cy hM aM sdM (i41_0, dk_upA M.2 18 g41_1)) H := hP.sub [0, 1, 2, 3, 4, 5, 6, 7, 8, 9, 10, 11, 12, 13] rfl
        have hD : va_D A (wMd cy hM aM sdM (i41_0, dk_upA M.2 18 g41_1)) := hD.sub [0, 1, 2, 3, 4, 5, 6, 7, 8, 9, 10, 11, 12, 13] (by decide) rfl
        refine lv_aload_n hx hb dX6_hide_44 rfl (lv_at hl 0 rfl) ?_
        refine va_get (D := D) (ci := 6) (v := .ref (aM 16)) (C := RX6) (T := TX6) (N := 28) hx hb hts iX6_hide_X6 hown hK.1 hP 0 rfl rfl 16 (by decide) (hts (.fieldLink RX6 29 "DarkPlaceModel" "page" "[I") (List.mem_of_getElem? (i := 2) rfl)) (fun _ h9 => h9) rfl dX6_hide_45 ?_
        refine lv_iconst (v := 0) hx hb dX6_hide_48 (by decide) ?_
        refine dk_iald hx hb hK.1 hP 4 0 rfl rfl hf dX6_hide_49 (fun d49 hf => ?_)
        refine lv_istore_n (lv' := [(2, .int d49), (0, .ref hM), (1, .int v1)]) hx hb dX6_hide_50 rfl hl (by decide) rfl (fun ls hl => ?_)
        refine lv_aload_n hx hb dX6_hide_51 rfl (lv_at hl 1 rfl) ?_
        refine va_get (D := D) (ci := 6) (v := .ref (aM 16)) (C := RX6) (T := TX6) (N := 28) hx hb hts iX6_hide_X6 hown hK.1 hP 0 rfl rfl 16 (by decide) (hts (.fieldLink RX6 29 "DarkPlaceModel" "page" "[I") (List.mem_of_getElem? (i := 2) rfl)) (fun _ h9 => h9) rfl dX6_hide_52 ?_
        refine lv_iconst (v := 0) hx hb dX6_hide_55 (by decide) ?_
        refine lv_iload_n hx hb dX6_hide_56 rfl (lv_at hl 2 rfl) ?_
        refine dk_iast hx hb hK.1 hP hD hS 4 0 rfl rfl hf dX6_hide_57 (fun f57 H locs hP hD hS hf => ?_)
        have hP : va_P D vwCl (wMd cy hM aM sdM (i41_0, dk_upA (dk_upA M.2 16 f57) 18 g41_1)) H := hP
        have hD : va_D A (wMd cy hM aM sdM (i41_0, dk_upA (dk_upA M.2 16 f57) 18 g41_1)) := hD
        refine lv_iload_n hx hb dX6_hide_58 rfl (lv_at hl 0 rfl) ?_
        have e := Option.some.inj hf
        simp only [Prod.mk.injEq] at e
        obtain ⟨e0, e1, e2, e3⟩ := e
        subst e1
        subst e2
        subst e3
        exact W.iret (v := d49) hx hb hr (fun t ht hW => ⟨⟨d49, (), rfl, e0, by rw [ht]; exact hP, hD⟩, hS.F ht⟩) hS.2.2 dX6_hide_59
      · refine lv_bipush (v := (-3)) hx hb dX6_hide_37 (by decide) ?_
        have e := Option.some.inj hf
        simp only [Prod.mk.injEq] at e
        obtain ⟨e0, e1, e2, e3⟩ := e
        subst e1
        subst e2
        subst e3
        exact W.iret (v := (-3)) hx hb hr (fun t ht hW => ⟨⟨(-3), (), rfl, e0, by rw [ht]; exact hP, hD⟩, hS.F ht⟩) hS.2.2 dX6_hide_39
  · refine lv_iconst (v := (-1)) hx hb dX6_hide_13 (by decide) ?_
    have e := Option.some.inj hf
    simp only [Prod.mk.injEq] at e
    obtain ⟨e0, e1, e2, e3⟩ := e
    subst e1
    subst e2
    subst e3
    exact W.iret (v := (-1)) hx hb hr (fun t ht hW => ⟨⟨(-1), (), rfl, e0, by rw [ht]; exact hP, hD⟩, hS.F ht⟩) hS.2.2 dX6_hide_14
theorem iX6_undo_X6 : ∀ w ∈ wsX60, w ∈ wsX6_undo := fun _ h => List.mem_cons_of_mem _ (List.mem_append_right _ h)
set_option maxHeartbeats 4000000 in
set_option maxRecDepth 100000 in
theorem kX6_undo (l : Launch) (D : va_G) (cy : Nat → ClassId) (hM : Nat) (aM : Nat → Nat) (sdM : Int64) (sz : Nat) (M : dk_O)  (r : Int32) (oM_I : (Nat → Int32)) (oM_16 : (Nat → Int32)) (hf : fX6_undo M = some (r, oM_I, oM_16)) : dk_MuI l yX6_undo wsX6_undo ({ frames := 0, cells := 0, slots := 0, locals := 0 }) D cy [.ref hM] (wMd cy hM aM sdM M) (wMd cy hM aM sdM (oM_I, dk_upA M.2 16 oM_16)) sz r := by
  refine Met.ofW (cc := cX6_undo) (maxL := 2) (ret := (some .int)) (by decide) rfl ?_
  intro p e s m args below meth c s₁ B hml hv
  obtain ⟨rfl, hsz, hP, hK, hD0⟩ := hv
  have hx := B.exec
  have hb := B.bytes
  have hr := B.returns
  have hts := atoms_spec (ws := wsX6_undo) B.pre
  have hown : s.vm.findClass RX6 = some m.cls := findClass_of_methodNamed B.named
  have hlocks := B.notSynchronized
  subst hsz
  have hD := hD0.self (sz := s.heap.size)
  generalize hAe : va_A (wMd cy hM aM sdM M) s.heap.size = A at hD ⊢
  have hA : ∀ q : Nat, s.heap.size ≤ q → A q := fun q h => by rw [← hAe]; exact Or.inr h
  have hS : va_S A s.heap s.heap [] := va_S.rf
  have hl := lv_entry ([.ref hM]) (n := 2) (Nat.le_of_ble_eq_true rfl)
  rw [lg_entry_eq]
  generalize (lg_sl ([.ref hM]) ++ List.replicate (2 - (lg_sl ([.ref hM])).length) Slot.unset).toArray = ls at hl ⊢
  have hl : lv_has ls 2 [(0, .ref hM)] := hl
  have L27 : ∀ (fu27 : Nat) (x1 : Int32) (M_I : (Nat → Int32)) (M_16 : (Nat → Int32)) (H : Heap) (locs : List Loc) (ls : Array Slot), va_P D vwCl (wMd cy hM aM sdM (M_I, dk_upA M.2 16 M_16)) H → va_D A (wMd cy hM aM sdM (M_I, dk_upA M.2 16 M_16)) → va_S A s.heap H locs → lv_has ls 2 [(0, .ref hM), (1, .int x1)] → fX6_undo_L27 M fu27 x1 M_I M_16 = some (r, oM_I, oM_16) → W p l e (headSpec wsX6_undo ({ frames := 0, cells := 0, slots := 0, locals := 0 })).room s m ([.ref hM]).toArray below meth c H locs 0 0 (MQ below (va_Qi (fun (x : Int32) (_ : Unit) => x = r) (dk_B D (wMd cy hM aM sdM (oM_I, dk_upA M.2 16 oM_16)) A) A) ([.ref hM]).toArray s 0 0 A) (F0 m 27 ls []) := by
    intro fu27
    induction fu27 with
    | zero =>
      intro x1 M_I M_16 H locs ls hP hD hS hl hf
      rw [fX6_undo_L27] at hf
      cases hf
    | succ fu27 ih27 =>
      intro x1 M_I M_16 H locs ls hP hD hS hl hf
      rw [fX6_undo_L27] at hf
      refine lv_iload_n hx hb dX6_undo_27 rfl (lv_at hl 1 rfl) ?_
      refine lv_bipush (v := 21) hx hb dX6_undo_28 (by decide) ?_
      refine dk_cge (tgt := 59) hx hb dX6_undo_30 (by decide) hf (fun hf => ?_) (fun hf => ?_)
      · refine lv_aload_n hx hb dX6_undo_59 rfl (lv_at hl 0 rfl) ?_
        refine va_get (D := D) (ci := 6) (v := .int (M_I 19)) (C := RX6) (T := TX6) (N := 28) hx hb hts iX6_undo_X6 hown hK.1 hP 0 rfl rfl 19 (by decide) (hts (.fieldLink RX6 163 "DarkPlaceModel" "doings" "I") (List.mem_of_getElem? (i := 2) rfl)) (fun _ h9 => h9) rfl dX6_undo_60 ?_
        have e := Option.some.inj hf
        simp only [Prod.mk.injEq] at e
        obtain ⟨e0, e1, e2⟩ := e
        subst e1
        subst e2
        exact W.iret (v := M_I 19) hx hb hr (fun t ht hW => ⟨⟨M_I 19, (), rfl, e0, by rw [ht]; exact hP, hD⟩, hS.F ht⟩) hS.2.2 dX6_undo_63
      · refine lv_aload_n hx hb dX6_undo_33 rfl (lv_at hl 0 rfl) ?_
        refine va_get (D := D) (ci := 6) (v := .ref (aM 16)) (C := RX6) (T := TX6) (N := 28) hx hb hts iX6_undo_X6 hown hK.1 hP 0 rfl rfl 16 (by decide) (hts (.fieldLink RX6 29 "DarkPlaceModel" "page" "[I") (List.mem_of_getElem? (i := 3) rfl)) (fun _ h9 => h9) rfl dX6_undo_34 ?_
        refine lv_iload_n hx hb dX6_undo_37 rfl (lv_at hl 1 rfl) ?_
        refine lv_aload_n hx hb dX6_undo_38 rfl (lv_at hl 0 rfl) ?_
        refine va_get (D := D) (ci := 6) (v := .ref (aM 18)) (C := RX6) (T := TX6) (N := 28) hx hb hts iX6_undo_X6 hown hK.1 hP 0 rfl rfl 18 (by decide) (hts (.fieldLink RX6 35 "DarkPlaceModel" "book" "[I") (List.mem_of_getElem? (i := 4) rfl)) (fun _ h9 => h9) rfl dX6_undo_39 ?_
        refine lv_bipush (v := 21) hx hb dX6_undo_42 (by decide) ?_
        refine lv_aload_n hx hb dX6_undo_44 rfl (lv_at hl 0 rfl) ?_
        refine va_get (D := D) (ci := 6) (v := .int (M_I 19)) (C := RX6) (T := TX6) (N := 28) hx hb hts iX6_undo_X6 hown hK.1 hP 0 rfl rfl 19 (by decide) (hts (.fieldLink RX6 163 "DarkPlaceModel" "doings" "I") (List.mem_of_getElem? (i := 2) rfl)) (fun _ h9 => h9) rfl dX6_undo_45 ?_
        refine lv_imul hx hb dX6_undo_48 ?_
        refine lv_iload_n hx hb dX6_undo_49 rfl (lv_at hl 1 rfl) ?_
        refine lv_iadd hx hb dX6_undo_50 ?_
        refine dk_iald hx hb hK.1 hP 9 0 rfl rfl hf dX6_undo_51 (fun d51 hf => ?_)
        refine dk_iast hx hb hK.1 hP hD hS 4 0 rfl rfl hf dX6_undo_52 (fun f52 H locs hP hD hS hf => ?_)
        have hP : va_P D vwCl (wMd cy hM aM sdM (M_I, dk_upA M.2 16 f52)) H := hP
        have hD : va_D A (wMd cy hM aM sdM (M_I, dk_upA M.2 16 f52)) := hD
        refine lv_iinc (v := x1 + 1) (lv' := [(1, .int (x1 + 1)), (0, .ref hM)]) hx hb dX6_undo_53 hl (k := 1) rfl rfl (by decide) rfl (fun ls hl => ?_)
        refine lv_goto (tgt := 27) hx hb dX6_undo_56 (by decide) ?_
        exact ih27 (x1 + 1) M_I f52 _ _ _ hP hD hS (lv_sub hl [1, 0] rfl) hf
  unfold fX6_undo at hf
  refine lv_aload_n hx hb dX6_undo_0 rfl (lv_at hl 0 rfl) ?_
  refine lv_iconst (v := 0) hx hb dX6_undo_1 (by decide) ?_
  refine va_put (D := D) (ci := 6) (v := .int 0) (ty := .int) (C := RX6) (T := TX6) (N := 28) hx hb hts iX6_undo_X6 tyX6 tyX6_ok nmX6 hown hK.1 hP hD hS 0 rfl rfl 0 (by decide) (hts (.fieldLink RX6 61 "DarkPlaceModel" "thrown" "I") (List.mem_of_getElem? (i := 1) rfl)) (fun _ h9 => h9) rfl (by decide +kernel) rfl rfl (Nat.le_of_ble_eq_true rfl) dX6_undo_2 (fun H locs hP hD hS => ?_)
  have hP : va_P D vwCl (wMd cy hM aM sdM (upd M.1 0 0, M.2)) H := hP
  have hD : va_D A (wMd cy hM aM sdM (upd M.1 0 0, M.2)) := hD
  refine lv_aload_n hx hb dX6_undo_5 rfl (lv_at hl 0 rfl) ?_
  refine va_get (D := D) (ci := 6) (v := .int (M.1 19)) (C := RX6) (T := TX6) (N := 28) hx hb hts iX6_undo_X6 hown hK.1 hP 0 rfl rfl 19 (by decide) (hts (.fieldLink RX6 163 "DarkPlaceModel" "doings" "I") (List.mem_of_getElem? (i := 2) rfl)) (fun _ h9 => h9) rfl dX6_undo_6 ?_
  refine dk_ine (tgt := 15) hx hb dX6_undo_9 (by decide) hf (fun hf => ?_) (fun hf => ?_)
  · refine lv_aload_n hx hb dX6_undo_15 rfl (lv_at hl 0 rfl) ?_
    refine lv_dup hx hb dX6_undo_16 rfl ?_
    refine va_get (D := D) (ci := 6) (v := .int (M.1 19)) (C := RX6) (T := TX6) (N := 28) hx hb hts iX6_undo_X6 hown hK.1 hP 0 rfl rfl 19 (by decide) (hts (.fieldLink RX6 163 "DarkPlaceModel" "doings" "I") (List.mem_of_getElem? (i := 2) rfl)) (fun _ h9 => h9) rfl dX6_undo_17 ?_
    refine lv_iconst (v := 1) hx hb dX6_undo_20 (by decide) ?_
    refine lv_isub hx hb dX6_undo_21 ?_
    refine va_put (D := D) (ci := 6) (v := .int ((M.1 19) - 1)) (ty := .int) (C := RX6) (T := TX6) (N := 28) hx hb hts iX6_undo_X6 tyX6 tyX6_ok nmX6 hown hK.1 hP hD hS 0 rfl rfl 19 (by decide) (hts (.fieldLink RX6 163 "DarkPlaceModel" "doings" "I") (List.mem_of_getElem? (i := 2) rfl)) (fun _ h9 => h9) rfl (by decide +kernel) rfl rfl (Nat.le_of_ble_eq_true rfl) dX6_undo_22 (fun H locs hP hD hS => ?_)
    have hP : va_P D vwCl (wMd cy hM aM sdM (upd (upd M.1 0 0) 19 ((M.1 19) - 1), M.2)) H := hP
    have hD : va_D A (wMd cy hM aM sdM (upd (upd M.1 0 0) 19 ((M.1 19) - 1), M.2)) := hD
    refine lv_iconst (v := 0) hx hb dX6_undo_25 (by decide) ?_
    refine lv_istore_n (lv' := [(1, .int 0), (0, .ref hM)]) hx hb dX6_undo_26 rfl hl (by decide) rfl (fun ls hl => ?_)
    exact L27 1000 0 (upd (upd M.1 0 0) 19 ((M.1 19) - 1)) (M.2 16) _ _ _ hP hD hS (lv_sub hl [1, 0] rfl) hf
  · refine lv_bipush (v := (-3)) hx hb dX6_undo_12 (by decide) ?_
    have e := Option.some.inj hf
    simp only [Prod.mk.injEq] at e
    obtain ⟨e0, e1, e2⟩ := e
    subst e1
    subst e2
    exact W.iret (v := (-3)) hx hb hr (fun t ht hW => ⟨⟨(-3), (), rfl, e0, by rw [ht]; exact hP, hD⟩, hS.F ht⟩) hS.2.2 dX6_undo_14
theorem iX6_runTrial_X6 : ∀ w ∈ wsX60, w ∈ wsX6_runTrial := fun _ h => List.mem_cons_of_mem _ (List.mem_append_right _ h)
set_option maxHeartbeats 4000000 in
set_option maxRecDepth 100000 in
theorem kX6_runTrial (l : Launch) (D : va_G) (cy : Nat → ClassId) (hM : Nat) (aM : Nat → Nat) (sdM : Int64) (sz : Nat) (M : dk_O)  (r : Int32) (oM_26 : (Nat → Int32)) (oM_17 : (Nat → Int32)) (hf : fX6_runTrial M = some (r, oM_26, oM_17)) : dk_MuI l yX6_runTrial wsX6_runTrial ({ frames := 5, cells := 0, slots := 0, locals := 117 }) D cy [.ref hM] (wMd cy hM aM sdM M) (wMd cy hM aM sdM (M.1, dk_upA (dk_upA M.2 26 oM_26) 17 oM_17)) sz r := by
  refine Met.ofW (cc := cX6_runTrial) (maxL := 2) (ret := (some .int)) (by decide) rfl ?_
  intro p e s m args below meth c s₁ B hml hv
  obtain ⟨rfl, hsz, hP, hK, hD0⟩ := hv
  have hx := B.exec
  have hb := B.bytes
  have hr := B.returns
  have hts := atoms_spec (ws := wsX6_runTrial) B.pre
  have hown : s.vm.findClass RX6 = some m.cls := findClass_of_methodNamed B.named
  have hlocks := B.notSynchronized
  subst hsz
  have hD := hD0.self (sz := s.heap.size)
  generalize hAe : va_A (wMd cy hM aM sdM M) s.heap.size = A at hD ⊢
  have hA : ∀ q : Nat, s.heap.size ≤ q → A q := fun q h => by rw [← hAe]; exact Or.inr h
  have hS : va_S A s.heap s.heap [] := va_S.rf
  have hl := lv_entry ([.ref hM]) (n := 2) (Nat.le_of_ble_eq_true rfl)
  rw [lg_entry_eq]
  generalize (lg_sl ([.ref hM]) ++ List.replicate (2 - (lg_sl ([.ref hM])).length) Slot.unset).toArray = ls at hl ⊢
  have hl : lv_has ls 2 [(0, .ref hM)] := hl
  have L2 : ∀ (fu2 : Nat) (x1 : Int32) (M_26 : (Nat → Int32)) (M_17 : (Nat → Int32)) (H : Heap) (locs : List Loc) (ls : Array Slot), va_P D vwCl (wMd cy hM aM sdM (M.1, dk_upA (dk_upA M.2 26 M_26) 17 M_17)) H → va_D A (wMd cy hM aM sdM (M.1, dk_upA (dk_upA M.2 26 M_26) 17 M_17)) → va_S A s.heap H locs → lv_has ls 2 [(0, .ref hM), (1, .int x1)] → fX6_runTrial_L2 M fu2 x1 M_26 M_17 = some (r, oM_26, oM_17) → W p l e (headSpec wsX6_runTrial ({ frames := 5, cells := 0, slots := 0, locals := 117 })).room s m ([.ref hM]).toArray below meth c H locs 0 0 (MQ below (va_Qi (fun (x : Int32) (_ : Unit) => x = r) (dk_B D (wMd cy hM aM sdM (M.1, dk_upA (dk_upA M.2 26 oM_26) 17 oM_17)) A) A) ([.ref hM]).toArray s 0 0 A) (F0 m 2 ls []) := by
    intro fu2
    induction fu2 with
    | zero =>
      intro x1 M_26 M_17 H locs ls hP hD hS hl hf
      rw [fX6_runTrial_L2] at hf
      cases hf
    | succ fu2 ih2 =>
      intro x1 M_26 M_17 H locs ls hP hD hS hl hf
      rw [fX6_runTrial_L2] at hf
      refine lv_iload_n hx hb dX6_runTrial_2 rfl (lv_at hl 1 rfl) ?_
      refine lv_bipush (v := 61) hx hb dX6_runTrial_3 (by decide) ?_
      refine dk_cge (tgt := 36) hx hb dX6_runTrial_5 (by decide) hf (fun hf => ?_) (fun hf => ?_)
      · refine lv_bipush (v := (-9)) hx hb dX6_runTrial_36 (by decide) ?_
        have e := Option.some.inj hf
        simp only [Prod.mk.injEq] at e
        obtain ⟨e0, e1, e2⟩ := e
        subst e1
        subst e2
        exact W.iret (v := (-9)) hx hb hr (fun t ht hW => ⟨⟨(-9), (), rfl, e0, by rw [ht]; exact hP, hD⟩, hS.F ht⟩) hS.2.2 dX6_runTrial_38
      · refine lv_aload_n hx hb dX6_runTrial_8 rfl (lv_at hl 0 rfl) ?_
        refine lv_aload_n hx hb dX6_runTrial_9 rfl (lv_at hl 0 rfl) ?_
        refine va_get (D := D) (ci := 6) (v := .ref (aM 17)) (C := RX6) (T := TX6) (N := 28) hx hb hts iX6_runTrial_X6 hown hK.1 hP 0 rfl rfl 17 (by decide) (hts (.fieldLink RX6 32 "DarkPlaceModel" "trial" "[I") (List.mem_of_getElem? (i := 1) rfl)) (fun _ h9 => h9) rfl dX6_runTrial_10 ?_
        obtain ⟨r13, k13, hf⟩ := dk_bind hf
        refine dk_ri (va_runV (As := [.ref (aM 17)]) (rest := []) ⟨hx, hb, hml, hown, hts⟩ (kX6_isKnown l D cy hM aM sdM (aM 17) (M.1, dk_upA (dk_upA M.2 26 M_26) 17 M_17) M_17 r13 k13) (cwV 1 hts gX6_runTrial_X6_isKnown rfl rfl rfl (by decide +kernel) ⟨Nat.le_of_ble_eq_true rfl, Nat.le_of_ble_eq_true rfl⟩) (dk_preV hK (hP.sub (ws' := wMs cy hM aM sdM (M.1, dk_upA (dk_upA M.2 26 M_26) 17 M_17) ++ wRw cy (aM 17) 21 M_17) [0, 1, 2, 3, 5] rfl) (ci := 6) (q0 := 0) rfl rfl) rfl rfl hl.1 rfl (lv_room (Nat.le_of_ble_eq_true rfl)) dX6_runTrial_13 ⟨Nat.zero_le _, Nat.zero_le _⟩) ?_
        refine dk_ieq (tgt := 21) hx hb dX6_runTrial_16 (by decide) hf (fun hf => ?_) (fun hf => ?_)
        · refine lv_aload_n hx hb dX6_runTrial_21 rfl (lv_at hl 0 rfl) ?_
          refine lv_aload_n hx hb dX6_runTrial_22 rfl (lv_at hl 0 rfl) ?_
          refine va_get (D := D) (ci := 6) (v := .ref (aM 17)) (C := RX6) (T := TX6) (N := 28) hx hb hts iX6_runTrial_X6 hown hK.1 hP 0 rfl rfl 17 (by decide) (hts (.fieldLink RX6 32 "DarkPlaceModel" "trial" "[I") (List.mem_of_getElem? (i := 1) rfl)) (fun _ h9 => h9) rfl dX6_runTrial_23 ?_
          obtain ⟨⟨r26, g26_0, g26_1⟩, k26, hf⟩ := dk_bind hf
          dsimp only at hf
          have hPc := hP.sub (ws' := wMs cy hM aM sdM (M.1, dk_upA (dk_upA M.2 26 M_26) 17 M_17) ++ wRw cy (aM 17) 21 M_17) [0, 1, 2, 3, 5] rfl
          have hDc := hD.sub (ws' := wMs cy hM aM sdM (M.1, dk_upA (dk_upA M.2 26 M_26) 17 M_17) ++ wRw cy (aM 17) 21 M_17) [0, 1, 2, 3, 5] (by decide) rfl
          have hFc := va_free (wc := wMs cy hM aM sdM (M.1, dk_upA (dk_upA M.2 26 M_26) 17 M_17) ++ wRw cy (aM 17) 21 M_17) hD hS hA [0, 1, 2, 3, 5] rfl
          refine va_calli (va_runV (As := [.ref (aM 17)]) (rest := []) ⟨hx, hb, hml, hown, hts⟩ (kX6_roundOn l D cy hM aM sdM (aM 17) H.size (M.1, dk_upA (dk_upA M.2 26 M_26) 17 M_17) M_17 r26 g26_0 g26_1 k26) (cwV 1 hts gX6_runTrial_X6_roundOn rfl rfl rfl (by decide +kernel) ⟨Nat.le_of_ble_eq_true rfl, Nat.le_of_ble_eq_true rfl⟩) (dk_premV hK hPc hDc (ci := 6) (q0 := 0) rfl rfl) rfl rfl hl.1 rfl (lv_room (Nat.le_of_ble_eq_true rfl)) dX6_runTrial_26 ⟨Nat.zero_le _, Nat.zero_le _⟩) hS (fun q _ h => hFc q h) hFc (fun xr26 u t H1 locs ht hvm hw hB hz1 hk1 hS => ?_)
          obtain ⟨hP1, hD1⟩ := hB
          rw [ht] at hP1
          rw [hw]
          obtain ⟨hP, hD⟩ := va_join (wr := ([4, 6, 7, 8, 9, 10, 11, 12, 13] : List Nat).filterMap (fun i => (wMd cy hM aM sdM (M.1, dk_upA (dk_upA M.2 26 M_26) 17 M_17))[i]?)) (w1 := wMs cy hM aM sdM (M.1, dk_upA (dk_upA M.2 26 g26_0) 17 g26_1) ++ wRw cy (aM 17) 21 g26_1) hP hD [0, 1, 2, 3, 5] [4, 6, 7, 8, 9, 10, 11, 12, 13] rfl rfl (by decide) (by decide) hk1 hFc hP1 hD1
          generalize H1 = H at hP hS ⊢
          have hP : va_P D vwCl (wMd cy hM aM sdM (M.1, dk_upA (dk_upA M.2 26 g26_0) 17 g26_1)) H := hP.sub [9, 10, 11, 12, 0, 13, 1, 2, 3, 4, 5, 6, 7, 8] rfl
          have hD : va_D A (wMd cy hM aM sdM (M.1, dk_upA (dk_upA M.2 26 g26_0) 17 g26_1)) := hD.sub [9, 10, 11, 12, 0, 13, 1, 2, 3, 4, 5, 6, 7, 8] (by decide) rfl
          refine lv_pop hx hb dX6_runTrial_29 rfl ?_
          refine lv_iinc (v := x1 + 1) (lv' := [(1, .int (x1 + 1)), (0, .ref hM)]) hx hb dX6_runTrial_30 hl (k := 1) rfl rfl (by decide) rfl (fun ls hl => ?_)
          refine lv_goto (tgt := 2) hx hb dX6_runTrial_33 (by decide) ?_
          exact ih2 (x1 + 1) g26_0 g26_1 _ _ _ hP hD hS (lv_sub hl [1, 0] rfl) hf
        · refine lv_iload_n hx hb dX6_runTrial_19 rfl (lv_at hl 1 rfl) ?_
          have e := Option.some.inj hf
          simp only [Prod.mk.injEq] at e
          obtain ⟨e0, e1, e2⟩ := e
          subst e1
          subst e2
          exact W.iret (v := x1) hx hb hr (fun t ht hW => ⟨⟨x1, (), rfl, e0, by rw [ht]; exact hP, hD⟩, hS.F ht⟩) hS.2.2 dX6_runTrial_20
  unfold fX6_runTrial at hf
  refine lv_iconst (v := 0) hx hb dX6_runTrial_0 (by decide) ?_
  refine lv_istore_n (lv' := [(1, .int 0), (0, .ref hM)]) hx hb dX6_runTrial_1 rfl hl (by decide) rfl (fun ls hl => ?_)
  exact L2 1000 0 (M.2 26) (M.2 17) _ _ _ hP hD hS (lv_sub hl [1, 0] rfl) hf
theorem iX6_worst_X6 : ∀ w ∈ wsX60, w ∈ wsX6_worst := fun _ h => List.mem_cons_of_mem _ (List.mem_append_right _ h)
set_option maxHeartbeats 4000000 in
set_option maxRecDepth 100000 in
theorem kX6_worst (l : Launch) (D : va_G) (cy : Nat → ClassId) (hM : Nat) (aM : Nat → Nat) (sdM : Int64) (sz : Nat) (M : dk_O)  (r : Int32) (oM_26 : (Nat → Int32)) (oM_17 : (Nat → Int32)) (hf : fX6_worst M = some (r, oM_26, oM_17)) : dk_MuI l yX6_worst wsX6_worst ({ frames := 6, cells := 0, slots := 0, locals := 138 }) D cy [.ref hM] (wMd cy hM aM sdM M) (wMd cy hM aM sdM (M.1, dk_upA (dk_upA M.2 26 oM_26) 17 oM_17)) sz r := by
  refine Met.ofW (cc := cX6_worst) (maxL := 5) (ret := (some .int)) (by decide) rfl ?_
  intro p e s m args below meth c s₁ B hml hv
  obtain ⟨rfl, hsz, hP, hK, hD0⟩ := hv
  have hx := B.exec
  have hb := B.bytes
  have hr := B.returns
  have hts := atoms_spec (ws := wsX6_worst) B.pre
  have hown : s.vm.findClass RX6 = some m.cls := findClass_of_methodNamed B.named
  have hlocks := B.notSynchronized
  subst hsz
  have hD := hD0.self (sz := s.heap.size)
  generalize hAe : va_A (wMd cy hM aM sdM M) s.heap.size = A at hD ⊢
  have hA : ∀ q : Nat, s.heap.size ≤ q → A q := fun q h => by rw [← hAe]; exact Or.inr h
  have hS : va_S A s.heap s.heap [] := va_S.rf
  have hl := lv_entry ([.ref hM]) (n := 5) (Nat.le_of_ble_eq_true rfl)
  rw [lg_entry_eq]
  generalize (lg_sl ([.ref hM]) ++ List.replicate (5 - (lg_sl ([.ref hM])).length) Slot.unset).toArray = ls at hl ⊢
  have hl : lv_has ls 5 [(0, .ref hM)] := hl
  have L7 : ∀ (fu7 : Nat) (x1 : Int32) (x2 : Int32) (x3 : Int32) (M_26 : (Nat → Int32)) (M_17 : (Nat → Int32)) (H : Heap) (locs : List Loc) (ls : Array Slot), va_P D vwCl (wMd cy hM aM sdM (M.1, dk_upA (dk_upA M.2 26 M_26) 17 M_17)) H → va_D A (wMd cy hM aM sdM (M.1, dk_upA (dk_upA M.2 26 M_26) 17 M_17)) → va_S A s.heap H locs → lv_has ls 5 [(0, .ref hM), (1, .int x1), (2, .int x2), (3, .int x3)] → fX6_worst_L7 M fu7 x1 x2 x3 M_26 M_17 = some (r, oM_26, oM_17) → W p l e (headSpec wsX6_worst ({ frames := 6, cells := 0, slots := 0, locals := 138 })).room s m ([.ref hM]).toArray below meth c H locs 0 0 (MQ below (va_Qi (fun (x : Int32) (_ : Unit) => x = r) (dk_B D (wMd cy hM aM sdM (M.1, dk_upA (dk_upA M.2 26 oM_26) 17 oM_17)) A) A) ([.ref hM]).toArray s 0 0 A) (F0 m 7 ls []) := by
    intro fu7
    induction fu7 with
    | zero =>
      intro x1 x2 x3 M_26 M_17 H locs ls hP hD hS hl hf
      rw [fX6_worst_L7] at hf
      cases hf
    | succ fu7 ih7 =>
      intro x1 x2 x3 M_26 M_17 H locs ls hP hD hS hl hf
      rw [fX6_worst_L7] at hf
      have L78 : ∀ (x2 : Int32) (x3 : Int32) (x4 : Int32) (s0 : Int32) (M_26 : (Nat → Int32)) (M_17 : (Nat → Int32)) (H : Heap) (locs : List Loc) (ls : Array Slot), va_P D vwCl (wMd cy hM aM sdM (M.1, dk_upA (dk_upA M.2 26 M_26) 17 M_17)) H → va_D A (wMd cy hM aM sdM (M.1, dk_upA (dk_upA M.2 26 M_26) 17 M_17)) → va_S A s.heap H locs → lv_has ls 5 [(0, .ref hM), (2, .int x2), (3, .int x3), (4, .int x4)] → fX6_worst_L78 M (fun z0 z1 z2 z3 z4 => fX6_worst_L7 M fu7 z0 z1 z2 z3 z4) x2 x3 x4 s0 M_26 M_17 = some (r, oM_26, oM_17) → W p l e (headSpec wsX6_worst ({ frames := 6, cells := 0, slots := 0, locals := 138 })).room s m ([.ref hM]).toArray below meth c H locs 0 0 (MQ below (va_Qi (fun (x : Int32) (_ : Unit) => x = r) (dk_B D (wMd cy hM aM sdM (M.1, dk_upA (dk_upA M.2 26 oM_26) 17 oM_17)) A) A) ([.ref hM]).toArray s 0 0 A) (F0 m 78 ls [.int s0]) := by
        intro x2 x3 x4 s0 M_26 M_17 H locs ls hP hD hS hl hf
        unfold fX6_worst_L78 at hf
        refine lv_istore_n (lv' := [(1, .int s0), (0, .ref hM), (2, .int x2), (3, .int x3), (4, .int x4)]) hx hb dX6_worst_78 rfl hl (by decide) rfl (fun ls hl => ?_)
        refine lv_iload hx hb dX6_worst_79 (lv_at hl 4 rfl) ?_
        refine lv_iload_n hx hb dX6_worst_81 rfl (lv_at hl 2 rfl) ?_
        refine dk_cle (tgt := 90) hx hb dX6_worst_82 (by decide) hf (fun hf => ?_) (fun hf => ?_)
        · refine lv_iload_n hx hb dX6_worst_90 rfl (lv_at hl 2 rfl) ?_
          refine lv_istore_n (lv' := [(2, .int x2), (1, .int s0), (0, .ref hM), (3, .int x3), (4, .int x4)]) hx hb dX6_worst_91 rfl hl (by decide) rfl (fun ls hl => ?_)
          refine lv_iinc (v := x3 + 1) (lv' := [(3, .int (x3 + 1)), (2, .int x2), (1, .int s0), (0, .ref hM), (4, .int x4)]) hx hb dX6_worst_92 hl (k := 3) rfl rfl (by decide) rfl (fun ls hl => ?_)
          refine lv_goto (tgt := 7) hx hb dX6_worst_95 (by decide) ?_
          exact ih7 s0 x2 (x3 + 1) M_26 M_17 _ _ _ hP hD hS (lv_sub hl [3, 2, 1, 0] rfl) hf
        · refine lv_iload hx hb dX6_worst_85 (lv_at hl 4 rfl) ?_
          refine lv_goto (tgt := 91) hx hb dX6_worst_87 (by decide) ?_
          refine lv_istore_n (lv' := [(2, .int x4), (1, .int s0), (0, .ref hM), (3, .int x3), (4, .int x4)]) hx hb dX6_worst_91 rfl hl (by decide) rfl (fun ls hl => ?_)
          refine lv_iinc (v := x3 + 1) (lv' := [(3, .int (x3 + 1)), (2, .int x4), (1, .int s0), (0, .ref hM), (4, .int x4)]) hx hb dX6_worst_92 hl (k := 3) rfl rfl (by decide) rfl (fun ls hl => ?_)
          refine lv_goto (tgt := 7) hx hb dX6_worst_95 (by decide) ?_
          exact ih7 s0 x4 (x3 + 1) M_26 M_17 _ _ _ hP hD hS (lv_sub hl [3, 2, 1, 0] rfl) hf
      have L65 : ∀ (x1 : Int32) (x2 : Int32) (x3 : Int32) (s0 : Int32) (M_26 : (Nat → Int32)) (M_17 : (Nat → Int32)) (H : Heap) (locs : List Loc) (ls : Array Slot), va_P D vwCl (wMd cy hM aM sdM (M.1, dk_upA (dk_upA M.2 26 M_26) 17 M_17)) H → va_D A (wMd cy hM aM sdM (M.1, dk_upA (dk_upA M.2 26 M_26) 17 M_17)) → va_S A s.heap H locs → lv_has ls 5 [(0, .ref hM), (1, .int x1), (2, .int x2), (3, .int x3)] → fX6_worst_L65 M (fun z0 z1 z2 z3 z4 => fX6_worst_L7 M fu7 z0 z1 z2 z3 z4) x1 x2 x3 s0 M_26 M_17 = some (r, oM_26, oM_17) → W p l e (headSpec wsX6_worst ({ frames := 6, cells := 0, slots := 0, locals := 138 })).room s m ([.ref hM]).toArray below meth c H locs 0 0 (MQ below (va_Qi (fun (x : Int32) (_ : Unit) => x = r) (dk_B D (wMd cy hM aM sdM (M.1, dk_upA (dk_upA M.2 26 oM_26) 17 oM_17)) A) A) ([.ref hM]).toArray s 0 0 A) (F0 m 65 ls [.int s0]) := by
        intro x1 x2 x3 s0 M_26 M_17 H locs ls hP hD hS hl hf
        unfold fX6_worst_L65 at hf
        refine lv_istore (lv' := [(4, .int s0), (0, .ref hM), (1, .int x1), (2, .int x2), (3, .int x3)]) hx hb dX6_worst_65 hl (by decide) rfl (fun ls hl => ?_)
        refine lv_iload hx hb dX6_worst_67 (lv_at hl 0 rfl) ?_
        refine lv_iload_n hx hb dX6_worst_69 rfl (lv_at hl 3 rfl) ?_
        refine dk_cle (tgt := 77) hx hb dX6_worst_70 (by decide) hf (fun hf => ?_) (fun hf => ?_)
        · refine lv_iload_n hx hb dX6_worst_77 rfl (lv_at hl 2 rfl) ?_
          exact L78 x2 x3 s0 x1 M_26 M_17 _ _ _ hP hD hS (lv_sub hl [1, 3, 4, 0] rfl) hf
        · refine lv_iload_n hx hb dX6_worst_73 rfl (lv_at hl 4 rfl) ?_
          refine lv_goto (tgt := 78) hx hb dX6_worst_74 (by decide) ?_
          exact L78 x2 x3 s0 x3 M_26 M_17 _ _ _ hP hD hS (lv_sub hl [1, 3, 4, 0] rfl) hf
      refine lv_iload_n hx hb dX6_worst_7 rfl (lv_at hl 3 rfl) ?_
      refine lv_aload_n hx hb dX6_worst_8 rfl (lv_at hl 0 rfl) ?_
      refine va_get (D := D) (ci := 6) (v := .int (M.1 4)) (C := RX6) (T := TX6) (N := 28) hx hb hts iX6_worst_X6 hown hK.1 hP 0 rfl rfl 4 (by decide) (hts (.fieldLink RX6 13 "DarkPlaceModel" "places" "I") (List.mem_of_getElem? (i := 1) rfl)) (fun _ h9 => h9) rfl dX6_worst_9 ?_
      refine dk_cge (tgt := 98) hx hb dX6_worst_12 (by decide) hf (fun hf => ?_) (fun hf => ?_)
      · refine lv_iload_n hx hb dX6_worst_98 rfl (lv_at hl 1 rfl) ?_
        have e := Option.some.inj hf
        simp only [Prod.mk.injEq] at e
        obtain ⟨e0, e1, e2⟩ := e
        subst e1
        subst e2
        exact W.iret (v := x1) hx hb hr (fun t ht hW => ⟨⟨x1, (), rfl, e0, by rw [ht]; exact hP, hD⟩, hS.F ht⟩) hS.2.2 dX6_worst_99
      · refine lv_aload_n hx hb dX6_worst_15 rfl (lv_at hl 0 rfl) ?_
        refine lv_aload_n hx hb dX6_worst_16 rfl (lv_at hl 0 rfl) ?_
        refine va_get (D := D) (ci := 6) (v := .ref (aM 16)) (C := RX6) (T := TX6) (N := 28) hx hb hts iX6_worst_X6 hown hK.1 hP 0 rfl rfl 16 (by decide) (hts (.fieldLink RX6 29 "DarkPlaceModel" "page" "[I") (List.mem_of_getElem? (i := 2) rfl)) (fun _ h9 => h9) rfl dX6_worst_17 ?_
        refine lv_iload_n hx hb dX6_worst_20 rfl (lv_at hl 3 rfl) ?_
        obtain ⟨r21, k21, hf⟩ := dk_bind hf
        refine dk_ri (va_runV (As := [.ref (aM 16), .int x3]) (rest := []) ⟨hx, hb, hml, hown, hts⟩ (kX6_isFree l D cy hM aM sdM (aM 16) (M.1, dk_upA (dk_upA M.2 26 M_26) 17 M_17) (M.2 16) x3 r21 k21) (cwV 2 hts gX6_worst_X6_isFree rfl rfl rfl (by decide +kernel) ⟨Nat.le_of_ble_eq_true rfl, Nat.le_of_ble_eq_true rfl⟩) (dk_preV hK (hP.sub (ws' := wMs cy hM aM sdM (M.1, dk_upA (dk_upA M.2 26 M_26) 17 M_17) ++ wRw cy (aM 16) 21 (M.2 16)) [0, 1, 2, 3, 4] rfl) (ci := 6) (q0 := 0) rfl rfl) rfl rfl hl.1 rfl (lv_room (Nat.le_of_ble_eq_true rfl)) dX6_worst_21 ⟨Nat.zero_le _, Nat.zero_le _⟩) ?_
        refine dk_ieq (tgt := 92) hx hb dX6_worst_24 (by decide) hf (fun hf => ?_) (fun hf => ?_)
        · refine lv_iinc (v := x3 + 1) (lv' := [(3, .int (x3 + 1)), (0, .ref hM), (1, .int x1), (2, .int x2)]) hx hb dX6_worst_92 hl (k := 3) rfl rfl (by decide) rfl (fun ls hl => ?_)
          refine lv_goto (tgt := 7) hx hb dX6_worst_95 (by decide) ?_
          exact ih7 x1 x2 (x3 + 1) M_26 M_17 _ _ _ hP hD hS (lv_sub hl [1, 2, 3, 0] rfl) hf
        · refine lv_aload_n hx hb dX6_worst_27 rfl (lv_at hl 0 rfl) ?_
          refine va_get (D := D) (ci := 6) (v := .ref (aM 16)) (C := RX6) (T := TX6) (N := 28) hx hb hts iX6_worst_X6 hown hK.1 hP 0 rfl rfl 16 (by decide) (hts (.fieldLink RX6 29 "DarkPlaceModel" "page" "[I") (List.mem_of_getElem? (i := 2) rfl)) (fun _ h9 => h9) rfl dX6_worst_28 ?_
          refine lv_aload_n hx hb dX6_worst_31 rfl (lv_at hl 0 rfl) ?_
          refine va_get (D := D) (ci := 6) (v := .ref (aM 17)) (C := RX6) (T := TX6) (N := 28) hx hb hts iX6_worst_X6 hown hK.1 hP 0 rfl rfl 17 (by decide) (hts (.fieldLink RX6 32 "DarkPlaceModel" "trial" "[I") (List.mem_of_getElem? (i := 3) rfl)) (fun _ h9 => h9) rfl dX6_worst_32 ?_
          obtain ⟨g35_0, k35, hf⟩ := dk_bind hf
          have hPc := hP.sub (ws' := wRw cy (aM 16) 21 (M.2 16) ++ wRw cy (aM 17) 21 M_17) [4, 5] rfl
          have hDc := hD.sub (ws' := wRw cy (aM 16) 21 (M.2 16) ++ wRw cy (aM 17) 21 M_17) [4, 5] (by decide) rfl
          have hFc := va_free (wc := wRw cy (aM 16) 21 (M.2 16) ++ wRw cy (aM 17) 21 M_17) hD hS hA [4, 5] rfl
          refine va_callv (va_runS (As := [.ref (aM 16), .ref (aM 17)]) (rest := []) ⟨hx, hb, hml, hown, hts⟩ (kX6_lay l D cy (aM 16) (aM 17) H.size (M.2 16) M_17 g35_0 k35) (va_cwS 2 hts gX6_worst_X6_lay rfl rfl rfl (by decide +kernel) ⟨Nat.le_of_ble_eq_true rfl, Nat.le_of_ble_eq_true rfl⟩) (dk_premS hK hPc hDc) rfl rfl hl.1 rfl (lv_room (Nat.le_of_ble_eq_true rfl)) dX6_worst_35 ⟨Nat.zero_le _, Nat.zero_le _⟩) hS (fun q _ h => hFc q h) hFc (fun u t H1 locs ht hvm hw hB hz1 hk1 hS => ?_)
          obtain ⟨hP1, hD1⟩ := hB
          rw [ht] at hP1
          obtain ⟨hP, hD⟩ := va_join (wr := ([0, 1, 2, 3, 6, 7, 8, 9, 10, 11, 12, 13] : List Nat).filterMap (fun i => (wMd cy hM aM sdM (M.1, dk_upA (dk_upA M.2 26 M_26) 17 M_17))[i]?)) (w1 := wRw cy (aM 16) 21 (M.2 16) ++ wRw cy (aM 17) 21 g35_0) hP hD [4, 5] [0, 1, 2, 3, 6, 7, 8, 9, 10, 11, 12, 13] rfl rfl (by decide) (by decide) hk1 hFc hP1 hD1
          generalize H1 = H at hP hS ⊢
          have hP : va_P D vwCl (wMd cy hM aM sdM (M.1, dk_upA (dk_upA M.2 26 M_26) 17 g35_0)) H := hP.sub [0, 1, 2, 3, 12, 13, 4, 5, 6, 7, 8, 9, 10, 11] rfl
          have hD : va_D A (wMd cy hM aM sdM (M.1, dk_upA (dk_upA M.2 26 M_26) 17 g35_0)) := hD.sub [0, 1, 2, 3, 12, 13, 4, 5, 6, 7, 8, 9, 10, 11] (by decide) rfl
          refine lv_aload_n hx hb dX6_worst_38 rfl (lv_at hl 0 rfl) ?_
          refine va_get (D := D) (ci := 6) (v := .ref (aM 17)) (C := RX6) (T := TX6) (N := 28) hx hb hts iX6_worst_X6 hown hK.1 hP 0 rfl rfl 17 (by decide) (hts (.fieldLink RX6 32 "DarkPlaceModel" "trial" "[I") (List.mem_of_getElem? (i := 3) rfl)) (fun _ h9 => h9) rfl dX6_worst_39 ?_
          refine lv_iconst (v := 0) hx hb dX6_worst_42 (by decide) ?_
          refine lv_iload_n hx hb dX6_worst_43 rfl (lv_at hl 3 rfl) ?_
          refine dk_iast hx hb hK.1 hP hD hS 5 0 rfl rfl hf dX6_worst_44 (fun f44 H locs hP hD hS hf => ?_)
          have hP : va_P D vwCl (wMd cy hM aM sdM (M.1, dk_upA (dk_upA M.2 26 M_26) 17 f44)) H := hP
          have hD : va_D A (wMd cy hM aM sdM (M.1, dk_upA (dk_upA M.2 26 M_26) 17 f44)) := hD
          refine lv_aload_n hx hb dX6_worst_45 rfl (lv_at hl 0 rfl) ?_
          obtain ⟨⟨r46, g46_0, g46_1⟩, k46, hf⟩ := dk_bind hf
          dsimp only at hf
          have hPc := hP.sub (ws' := wMd cy hM aM sdM (M.1, dk_upA (dk_upA M.2 26 M_26) 17 f44)) [0, 1, 2, 3, 4, 5, 6, 7, 8, 9, 10, 11, 12, 13] rfl
          have hDc := hD.sub (ws' := wMd cy hM aM sdM (M.1, dk_upA (dk_upA M.2 26 M_26) 17 f44)) [0, 1, 2, 3, 4, 5, 6, 7, 8, 9, 10, 11, 12, 13] (by decide) rfl
          have hFc := va_free (wc := wMd cy hM aM sdM (M.1, dk_upA (dk_upA M.2 26 M_26) 17 f44)) hD hS hA [0, 1, 2, 3, 4, 5, 6, 7, 8, 9, 10, 11, 12, 13] rfl
          refine va_calli (va_runV (As := []) (rest := []) ⟨hx, hb, hml, hown, hts⟩ (kX6_runTrial l D cy hM aM sdM H.size (M.1, dk_upA (dk_upA M.2 26 M_26) 17 f44) r46 g46_0 g46_1 k46) (cwV 0 hts gX6_worst_X6_runTrial rfl rfl rfl (by decide +kernel) ⟨Nat.le_of_ble_eq_true rfl, Nat.le_of_ble_eq_true rfl⟩) (dk_premV hK hPc hDc (ci := 6) (q0 := 0) rfl rfl) rfl rfl hl.1 rfl (lv_room (Nat.le_of_ble_eq_true rfl)) dX6_worst_46 ⟨Nat.zero_le _, Nat.zero_le _⟩) hS (fun q _ h => hFc q h) hFc (fun xr46 u t H1 locs ht hvm hw hB hz1 hk1 hS => ?_)
          obtain ⟨hP1, hD1⟩ := hB
          rw [ht] at hP1
          rw [hw]
          obtain ⟨hP, hD⟩ := va_join (wr := ([] : List Nat).filterMap (fun i => (wMd cy hM aM sdM (M.1, dk_upA (dk_upA M.2 26 M_26) 17 f44))[i]?)) (w1 := wMd cy hM aM sdM (M.1, dk_upA (dk_upA M.2 26 g46_0) 17 g46_1)) hP hD [0, 1, 2, 3, 4, 5, 6, 7, 8, 9, 10, 11, 12, 13] [] rfl rfl (by decide) (by decide) hk1 hFc hP1 hD1
          generalize H1 = H at hP hS ⊢
          have hP : va_P D vwCl (wMd cy hM aM sdM (M.1, dk_upA (dk_upA M.2 26 g46_0) 17 g46_1)) H := hP.sub [0, 1, 2, 3, 4, 5, 6, 7, 8, 9, 10, 11, 12, 13] rfl
          have hD : va_D A (wMd cy hM aM sdM (M.1, dk_upA (dk_upA M.2 26 g46_0) 17 g46_1)) := hD.sub [0, 1, 2, 3, 4, 5, 6, 7, 8, 9, 10, 11, 12, 13] (by decide) rfl
          refine lv_istore (lv' := [(4, .int r46), (0, .ref hM), (1, .int x1), (2, .int x2), (3, .int x3)]) hx hb dX6_worst_49 hl (by decide) rfl (fun ls hl => ?_)
          refine lv_iload hx hb dX6_worst_51 (lv_at hl 0 rfl) ?_
          refine lv_bipush (v := (-9)) hx hb dX6_worst_53 (by decide) ?_
          refine dk_cne (tgt := 63) hx hb dX6_worst_55 (by decide) hf (fun hf => ?_) (fun hf => ?_)
          · refine lv_iload hx hb dX6_worst_63 (lv_at hl 0 rfl) ?_
            exact L65 x1 x2 x3 r46 g46_0 g46_1 _ _ _ hP hD hS (lv_sub hl [1, 2, 3, 4] rfl) hf
          · refine lv_bipush (v := 99) hx hb dX6_worst_58 (by decide) ?_
            refine lv_goto (tgt := 65) hx hb dX6_worst_60 (by decide) ?_
            exact L65 x1 x2 x3 99 g46_0 g46_1 _ _ _ hP hD hS (lv_sub hl [1, 2, 3, 4] rfl) hf
  unfold fX6_worst at hf
  refine lv_bipush (v := (-9)) hx hb dX6_worst_0 (by decide) ?_
  refine lv_istore_n (lv' := [(1, .int (-9)), (0, .ref hM)]) hx hb dX6_worst_2 rfl hl (by decide) rfl (fun ls hl => ?_)
  refine lv_iconst (v := (-1)) hx hb dX6_worst_3 (by decide) ?_
  refine lv_istore_n (lv' := [(2, .int (-1)), (1, .int (-9)), (0, .ref hM)]) hx hb dX6_worst_4 rfl hl (by decide) rfl (fun ls hl => ?_)
  refine lv_iconst (v := 0) hx hb dX6_worst_5 (by decide) ?_
  refine lv_istore_n (lv' := [(3, .int 0), (2, .int (-1)), (1, .int (-9)), (0, .ref hM)]) hx hb dX6_worst_6 rfl hl (by decide) rfl (fun ls hl => ?_)
  exact L7 1000 (-9) (-1) 0 (M.2 26) (M.2 17) _ _ _ hP hD hS (lv_sub hl [3, 2, 1, 0] rfl) hf
theorem iX6_fewest_X6 : ∀ w ∈ wsX60, w ∈ wsX6_fewest := fun _ h => List.mem_cons_of_mem _ (List.mem_append_right _ h)
set_option maxHeartbeats 4000000 in
set_option maxRecDepth 100000 in
theorem kX6_fewest (l : Launch) (D : va_G) (cy : Nat → ClassId) (hM : Nat) (aM : Nat → Nat) (sdM : Int64) (sz : Nat) (M : dk_O)  (r : Int32) (oM_26 : (Nat → Int32)) (oM_17 : (Nat → Int32)) (hf : fX6_fewest M = some (r, oM_26, oM_17)) : dk_MuI l yX6_fewest wsX6_fewest ({ frames := 6, cells := 0, slots := 0, locals := 138 }) D cy [.ref hM] (wMd cy hM aM sdM M) (wMd cy hM aM sdM (M.1, dk_upA (dk_upA M.2 26 oM_26) 17 oM_17)) sz r := by
  refine Met.ofW (cc := cX6_fewest) (maxL := 4) (ret := (some .int)) (by decide) rfl ?_
  intro p e s m args below meth c s₁ B hml hv
  obtain ⟨rfl, hsz, hP, hK, hD0⟩ := hv
  have hx := B.exec
  have hb := B.bytes
  have hr := B.returns
  have hts := atoms_spec (ws := wsX6_fewest) B.pre
  have hown : s.vm.findClass RX6 = some m.cls := findClass_of_methodNamed B.named
  have hlocks := B.notSynchronized
  subst hsz
  have hD := hD0.self (sz := s.heap.size)
  generalize hAe : va_A (wMd cy hM aM sdM M) s.heap.size = A at hD ⊢
  have hA : ∀ q : Nat, s.heap.size ≤ q → A q := fun q h => by rw [← hAe]; exact Or.inr h
  have hS : va_S A s.heap s.heap [] := va_S.rf
  have hl := lv_entry ([.ref hM]) (n := 4) (Nat.le_of_ble_eq_true rfl)
  rw [lg_entry_eq]
  generalize (lg_sl ([.ref hM]) ++ List.replicate (4 - (lg_sl ([.ref hM])).length) Slot.unset).toArray = ls at hl ⊢
  have hl : lv_has ls 4 [(0, .ref hM)] := hl
  have L2 : ∀ (fu2 : Nat) (x1 : Int32) (M_26 : (Nat → Int32)) (M_17 : (Nat → Int32)) (H : Heap) (locs : List Loc) (ls : Array Slot), va_P D vwCl (wMd cy hM aM sdM (M.1, dk_upA (dk_upA M.2 26 M_26) 17 M_17)) H → va_D A (wMd cy hM aM sdM (M.1, dk_upA (dk_upA M.2 26 M_26) 17 M_17)) → va_S A s.heap H locs → lv_has ls 4 [(0, .ref hM), (1, .int x1)] → fX6_fewest_L2 M fu2 x1 M_26 M_17 = some (r, oM_26, oM_17) → W p l e (headSpec wsX6_fewest ({ frames := 6, cells := 0, slots := 0, locals := 138 })).room s m ([.ref hM]).toArray below meth c H locs 0 0 (MQ below (va_Qi (fun (x : Int32) (_ : Unit) => x = r) (dk_B D (wMd cy hM aM sdM (M.1, dk_upA (dk_upA M.2 26 oM_26) 17 oM_17)) A) A) ([.ref hM]).toArray s 0 0 A) (F0 m 2 ls []) := by
    intro fu2
    induction fu2 with
    | zero =>
      intro x1 M_26 M_17 H locs ls hP hD hS hl hf
      rw [fX6_fewest_L2] at hf
      cases hf
    | succ fu2 ih2 =>
      intro x1 M_26 M_17 H locs ls hP hD hS hl hf
      rw [fX6_fewest_L2] at hf
      have L11 : ∀ (fu11 : Nat) (x1 : Int32) (x2 : Int32) (x3 : Int32) (M_26 : (Nat → Int32)) (M_17 : (Nat → Int32)) (H : Heap) (locs : List Loc) (ls : Array Slot), va_P D vwCl (wMd cy hM aM sdM (M.1, dk_upA (dk_upA M.2 26 M_26) 17 M_17)) H → va_D A (wMd cy hM aM sdM (M.1, dk_upA (dk_upA M.2 26 M_26) 17 M_17)) → va_S A s.heap H locs → lv_has ls 4 [(0, .ref hM), (1, .int x1), (2, .int x2), (3, .int x3)] → fX6_fewest_L11 M (fun z0 z1 z2 => fX6_fewest_L2 M fu2 z0 z1 z2) fu11 x1 x2 x3 M_26 M_17 = some (r, oM_26, oM_17) → W p l e (headSpec wsX6_fewest ({ frames := 6, cells := 0, slots := 0, locals := 138 })).room s m ([.ref hM]).toArray below meth c H locs 0 0 (MQ below (va_Qi (fun (x : Int32) (_ : Unit) => x = r) (dk_B D (wMd cy hM aM sdM (M.1, dk_upA (dk_upA M.2 26 oM_26) 17 oM_17)) A) A) ([.ref hM]).toArray s 0 0 A) (F0 m 11 ls []) := by
        intro fu11
        induction fu11 with
        | zero =>
          intro x1 x2 x3 M_26 M_17 H locs ls hP hD hS hl hf
          rw [fX6_fewest_L11] at hf
          cases hf
        | succ fu11 ih11 =>
          intro x1 x2 x3 M_26 M_17 H locs ls hP hD hS hl hf
          rw [fX6_fewest_L11] at hf
          refine lv_iload_n hx hb dX6_fewest_11 rfl (lv_at hl 3 rfl) ?_
          refine lv_aload_n hx hb dX6_fewest_12 rfl (lv_at hl 0 rfl) ?_
          refine va_get (D := D) (ci := 6) (v := .int (M.1 4)) (C := RX6) (T := TX6) (N := 28) hx hb hts iX6_fewest_X6 hown hK.1 hP 0 rfl rfl 4 (by decide) (hts (.fieldLink RX6 13 "DarkPlaceModel" "places" "I") (List.mem_of_getElem? (i := 1) rfl)) (fun _ h9 => h9) rfl dX6_fewest_13 ?_
          refine dk_cge (tgt := 72) hx hb dX6_fewest_16 (by decide) hf (fun hf => ?_) (fun hf => ?_)
          · refine lv_iload_n hx hb dX6_fewest_72 rfl (lv_at hl 2 rfl) ?_
            refine dk_ieq (tgt := 78) hx hb dX6_fewest_73 (by decide) hf (fun hf => ?_) (fun hf => ?_)
            · refine lv_iinc (v := x1 + 1) (lv' := [(1, .int (x1 + 1)), (0, .ref hM), (2, .int x2), (3, .int x3)]) hx hb dX6_fewest_78 hl (k := 1) rfl rfl (by decide) rfl (fun ls hl => ?_)
              refine lv_goto (tgt := 2) hx hb dX6_fewest_81 (by decide) ?_
              exact ih2 (x1 + 1) M_26 M_17 _ _ _ hP hD hS (lv_sub hl [1, 0] rfl) hf
            · refine lv_iload_n hx hb dX6_fewest_76 rfl (lv_at hl 1 rfl) ?_
              have e := Option.some.inj hf
              simp only [Prod.mk.injEq] at e
              obtain ⟨e0, e1, e2⟩ := e
              subst e1
              subst e2
              exact W.iret (v := x1) hx hb hr (fun t ht hW => ⟨⟨x1, (), rfl, e0, by rw [ht]; exact hP, hD⟩, hS.F ht⟩) hS.2.2 dX6_fewest_77
          · refine lv_iload_n hx hb dX6_fewest_19 rfl (lv_at hl 3 rfl) ?_
            refine lv_aload_n hx hb dX6_fewest_20 rfl (lv_at hl 0 rfl) ?_
            refine va_get (D := D) (ci := 6) (v := .int (M.1 5)) (C := RX6) (T := TX6) (N := 28) hx hb hts iX6_fewest_X6 hown hK.1 hP 0 rfl rfl 5 (by decide) (hts (.fieldLink RX6 64 "DarkPlaceModel" "home" "I") (List.mem_of_getElem? (i := 2) rfl)) (fun _ h9 => h9) rfl dX6_fewest_21 ?_
            refine dk_ceq (tgt := 66) hx hb dX6_fewest_24 (by decide) hf (fun hf => ?_) (fun hf => ?_)
            · refine lv_iinc (v := x3 + 1) (lv' := [(3, .int (x3 + 1)), (0, .ref hM), (1, .int x1), (2, .int x2)]) hx hb dX6_fewest_66 hl (k := 3) rfl rfl (by decide) rfl (fun ls hl => ?_)
              refine lv_goto (tgt := 11) hx hb dX6_fewest_69 (by decide) ?_
              exact ih11 x1 x2 (x3 + 1) M_26 M_17 _ _ _ hP hD hS (lv_sub hl [1, 2, 3, 0] rfl) hf
            · refine lv_aload_n hx hb dX6_fewest_27 rfl (lv_at hl 0 rfl) ?_
              refine lv_aload_n hx hb dX6_fewest_28 rfl (lv_at hl 0 rfl) ?_
              refine va_get (D := D) (ci := 6) (v := .ref (aM 17)) (C := RX6) (T := TX6) (N := 28) hx hb hts iX6_fewest_X6 hown hK.1 hP 0 rfl rfl 17 (by decide) (hts (.fieldLink RX6 32 "DarkPlaceModel" "trial" "[I") (List.mem_of_getElem? (i := 3) rfl)) (fun _ h9 => h9) rfl dX6_fewest_29 ?_
              refine lv_iload_n hx hb dX6_fewest_32 rfl (lv_at hl 3 rfl) ?_
              refine lv_iload_n hx hb dX6_fewest_33 rfl (lv_at hl 1 rfl) ?_
              obtain ⟨g34_0, k34, hf⟩ := dk_bind hf
              have hPc := hP.sub (ws' := wMs cy hM aM sdM (M.1, dk_upA (dk_upA M.2 26 M_26) 17 M_17) ++ wRw cy (aM 17) 21 M_17) [0, 1, 2, 3, 5] rfl
              have hDc := hD.sub (ws' := wMs cy hM aM sdM (M.1, dk_upA (dk_upA M.2 26 M_26) 17 M_17) ++ wRw cy (aM 17) 21 M_17) [0, 1, 2, 3, 5] (by decide) rfl
              have hFc := va_free (wc := wMs cy hM aM sdM (M.1, dk_upA (dk_upA M.2 26 M_26) 17 M_17) ++ wRw cy (aM 17) 21 M_17) hD hS hA [0, 1, 2, 3, 5] rfl
              refine va_callv (va_runV (As := [.ref (aM 17), .int x3, .int x1]) (rest := []) ⟨hx, hb, hml, hown, hts⟩ (kX6_layFirst l D cy hM aM sdM (aM 17) H.size (M.1, dk_upA (dk_upA M.2 26 M_26) 17 M_17) M_17 x3 x1 g34_0 k34) (cwV 3 hts gX6_fewest_X6_layFirst rfl rfl rfl (by decide +kernel) ⟨Nat.le_of_ble_eq_true rfl, Nat.le_of_ble_eq_true rfl⟩) (dk_premV hK hPc hDc (ci := 6) (q0 := 0) rfl rfl) rfl rfl hl.1 rfl (lv_room (Nat.le_of_ble_eq_true rfl)) dX6_fewest_34 ⟨Nat.zero_le _, Nat.zero_le _⟩) hS (fun q _ h => hFc q h) hFc (fun u t H1 locs ht hvm hw hB hz1 hk1 hS => ?_)
              obtain ⟨hP1, hD1⟩ := hB
              rw [ht] at hP1
              obtain ⟨hP, hD⟩ := va_join (wr := ([4, 6, 7, 8, 9, 10, 11, 12, 13] : List Nat).filterMap (fun i => (wMd cy hM aM sdM (M.1, dk_upA (dk_upA M.2 26 M_26) 17 M_17))[i]?)) (w1 := wMs cy hM aM sdM (M.1, dk_upA (dk_upA M.2 26 M_26) 17 g34_0) ++ wRw cy (aM 17) 21 g34_0) hP hD [0, 1, 2, 3, 5] [4, 6, 7, 8, 9, 10, 11, 12, 13] rfl rfl (by decide) (by decide) hk1 hFc hP1 hD1
              generalize H1 = H at hP hS ⊢
              have hP : va_P D vwCl (wMd cy hM aM sdM (M.1, dk_upA (dk_upA M.2 26 M_26) 17 g34_0)) H := hP.sub [9, 10, 11, 12, 0, 13, 1, 2, 3, 4, 5, 6, 7, 8] rfl
              have hD : va_D A (wMd cy hM aM sdM (M.1, dk_upA (dk_upA M.2 26 M_26) 17 g34_0)) := hD.sub [9, 10, 11, 12, 0, 13, 1, 2, 3, 4, 5, 6, 7, 8] (by decide) rfl
              refine lv_iload_n hx hb dX6_fewest_37 rfl (lv_at hl 2 rfl) ?_
              refine dk_ieq (tgt := 64) hx hb dX6_fewest_38 (by decide) hf (fun hf => ?_) (fun hf => ?_)
              · refine lv_iconst (v := 0) hx hb dX6_fewest_64 (by decide) ?_
                refine lv_istore_n (lv' := [(2, .int 0), (0, .ref hM), (1, .int x1), (3, .int x3)]) hx hb dX6_fewest_65 rfl hl (by decide) rfl (fun ls hl => ?_)
                refine lv_iinc (v := x3 + 1) (lv' := [(3, .int (x3 + 1)), (2, .int 0), (0, .ref hM), (1, .int x1)]) hx hb dX6_fewest_66 hl (k := 3) rfl rfl (by decide) rfl (fun ls hl => ?_)
                refine lv_goto (tgt := 11) hx hb dX6_fewest_69 (by decide) ?_
                exact ih11 x1 0 (x3 + 1) M_26 g34_0 _ _ _ hP hD hS (lv_sub hl [2, 3, 1, 0] rfl) hf
              · refine lv_aload_n hx hb dX6_fewest_41 rfl (lv_at hl 0 rfl) ?_
                obtain ⟨⟨r42, g42_0, g42_1⟩, k42, hf⟩ := dk_bind hf
                dsimp only at hf
                have hPc := hP.sub (ws' := wMd cy hM aM sdM (M.1, dk_upA (dk_upA M.2 26 M_26) 17 g34_0)) [0, 1, 2, 3, 4, 5, 6, 7, 8, 9, 10, 11, 12, 13] rfl
                have hDc := hD.sub (ws' := wMd cy hM aM sdM (M.1, dk_upA (dk_upA M.2 26 M_26) 17 g34_0)) [0, 1, 2, 3, 4, 5, 6, 7, 8, 9, 10, 11, 12, 13] (by decide) rfl
                have hFc := va_free (wc := wMd cy hM aM sdM (M.1, dk_upA (dk_upA M.2 26 M_26) 17 g34_0)) hD hS hA [0, 1, 2, 3, 4, 5, 6, 7, 8, 9, 10, 11, 12, 13] rfl
                refine va_calli (va_runV (As := []) (rest := []) ⟨hx, hb, hml, hown, hts⟩ (kX6_runTrial l D cy hM aM sdM H.size (M.1, dk_upA (dk_upA M.2 26 M_26) 17 g34_0) r42 g42_0 g42_1 k42) (cwV 0 hts gX6_fewest_X6_runTrial rfl rfl rfl (by decide +kernel) ⟨Nat.le_of_ble_eq_true rfl, Nat.le_of_ble_eq_true rfl⟩) (dk_premV hK hPc hDc (ci := 6) (q0 := 0) rfl rfl) rfl rfl hl.1 rfl (lv_room (Nat.le_of_ble_eq_true rfl)) dX6_fewest_42 ⟨Nat.zero_le _, Nat.zero_le _⟩) hS (fun q _ h => hFc q h) hFc (fun xr42 u t H1 locs ht hvm hw hB hz1 hk1 hS => ?_)
                obtain ⟨hP1, hD1⟩ := hB
                rw [ht] at hP1
                rw [hw]
                obtain ⟨hP, hD⟩ := va_join (wr := ([] : List Nat).filterMap (fun i => (wMd cy hM aM sdM (M.1, dk_upA (dk_upA M.2 26 M_26) 17 g34_0))[i]?)) (w1 := wMd cy hM aM sdM (M.1, dk_upA (dk_upA M.2 26 g42_0) 17 g42_1)) hP hD [0, 1, 2, 3, 4, 5, 6, 7, 8, 9, 10, 11, 12, 13] [] rfl rfl (by decide) (by decide) hk1 hFc hP1 hD1
                generalize H1 = H at hP hS ⊢
                have hP : va_P D vwCl (wMd cy hM aM sdM (M.1, dk_upA (dk_upA M.2 26 g42_0) 17 g42_1)) H := hP.sub [0, 1, 2, 3, 4, 5, 6, 7, 8, 9, 10, 11, 12, 13] rfl
                have hD : va_D A (wMd cy hM aM sdM (M.1, dk_upA (dk_upA M.2 26 g42_0) 17 g42_1)) := hD.sub [0, 1, 2, 3, 4, 5, 6, 7, 8, 9, 10, 11, 12, 13] (by decide) rfl
                refine lv_bipush (v := (-9)) hx hb dX6_fewest_45 (by decide) ?_
                refine dk_ceq (tgt := 64) hx hb dX6_fewest_47 (by decide) hf (fun hf => ?_) (fun hf => ?_)
                · refine lv_iconst (v := 0) hx hb dX6_fewest_64 (by decide) ?_
                  refine lv_istore_n (lv' := [(2, .int 0), (0, .ref hM), (1, .int x1), (3, .int x3)]) hx hb dX6_fewest_65 rfl hl (by decide) rfl (fun ls hl => ?_)
                  refine lv_iinc (v := x3 + 1) (lv' := [(3, .int (x3 + 1)), (2, .int 0), (0, .ref hM), (1, .int x1)]) hx hb dX6_fewest_66 hl (k := 3) rfl rfl (by decide) rfl (fun ls hl => ?_)
                  refine lv_goto (tgt := 11) hx hb dX6_fewest_69 (by decide) ?_
                  exact ih11 x1 0 (x3 + 1) g42_0 g42_1 _ _ _ hP hD hS (lv_sub hl [2, 3, 1, 0] rfl) hf
                · refine lv_aload_n hx hb dX6_fewest_50 rfl (lv_at hl 0 rfl) ?_
                  refine va_get (D := D) (ci := 6) (v := .ref (aM 17)) (C := RX6) (T := TX6) (N := 28) hx hb hts iX6_fewest_X6 hown hK.1 hP 0 rfl rfl 17 (by decide) (hts (.fieldLink RX6 32 "DarkPlaceModel" "trial" "[I") (List.mem_of_getElem? (i := 3) rfl)) (fun _ h9 => h9) rfl dX6_fewest_51 ?_
                  obtain ⟨r54, k54, hf⟩ := dk_bind hf
                  refine dk_ri (va_runS (As := [.ref (aM 17)]) (rest := []) ⟨hx, hb, hml, hown, hts⟩ (kX6_living l D cy (aM 17) g42_1 r54 k54) (va_cwS 1 hts gX6_fewest_X6_living rfl rfl rfl (by decide +kernel) ⟨Nat.le_of_ble_eq_true rfl, Nat.le_of_ble_eq_true rfl⟩) (dk_preS hK (hP.sub (ws' := wRw cy (aM 17) 21 g42_1) [5] rfl)) rfl rfl hl.1 rfl (lv_room (Nat.le_of_ble_eq_true rfl)) dX6_fewest_54 ⟨Nat.zero_le _, Nat.zero_le _⟩) ?_
                  refine dk_ile (tgt := 64) hx hb dX6_fewest_57 (by decide) hf (fun hf => ?_) (fun hf => ?_)
                  · refine lv_iconst (v := 0) hx hb dX6_fewest_64 (by decide) ?_
                    refine lv_istore_n (lv' := [(2, .int 0), (0, .ref hM), (1, .int x1), (3, .int x3)]) hx hb dX6_fewest_65 rfl hl (by decide) rfl (fun ls hl => ?_)
                    refine lv_iinc (v := x3 + 1) (lv' := [(3, .int (x3 + 1)), (2, .int 0), (0, .ref hM), (1, .int x1)]) hx hb dX6_fewest_66 hl (k := 3) rfl rfl (by decide) rfl (fun ls hl => ?_)
                    refine lv_goto (tgt := 11) hx hb dX6_fewest_69 (by decide) ?_
                    exact ih11 x1 0 (x3 + 1) g42_0 g42_1 _ _ _ hP hD hS (lv_sub hl [2, 3, 1, 0] rfl) hf
                  · refine lv_iconst (v := 1) hx hb dX6_fewest_60 (by decide) ?_
                    refine lv_goto (tgt := 65) hx hb dX6_fewest_61 (by decide) ?_
                    refine lv_istore_n (lv' := [(2, .int 1), (0, .ref hM), (1, .int x1), (3, .int x3)]) hx hb dX6_fewest_65 rfl hl (by decide) rfl (fun ls hl => ?_)
                    refine lv_iinc (v := x3 + 1) (lv' := [(3, .int (x3 + 1)), (2, .int 1), (0, .ref hM), (1, .int x1)]) hx hb dX6_fewest_66 hl (k := 3) rfl rfl (by decide) rfl (fun ls hl => ?_)
                    refine lv_goto (tgt := 11) hx hb dX6_fewest_69 (by decide) ?_
                    exact ih11 x1 1 (x3 + 1) g42_0 g42_1 _ _ _ hP hD hS (lv_sub hl [2, 3, 1, 0] rfl) hf
      refine lv_iload_n hx hb dX6_fewest_2 rfl (lv_at hl 1 rfl) ?_
      refine lv_iconst (v := 5) hx hb dX6_fewest_3 (by decide) ?_
      refine dk_cge (tgt := 84) hx hb dX6_fewest_4 (by decide) hf (fun hf => ?_) (fun hf => ?_)
      · refine lv_bipush (v := (-9)) hx hb dX6_fewest_84 (by decide) ?_
        have e := Option.some.inj hf
        simp only [Prod.mk.injEq] at e
        obtain ⟨e0, e1, e2⟩ := e
        subst e1
        subst e2
        exact W.iret (v := (-9)) hx hb hr (fun t ht hW => ⟨⟨(-9), (), rfl, e0, by rw [ht]; exact hP, hD⟩, hS.F ht⟩) hS.2.2 dX6_fewest_86
      · refine lv_iconst (v := 1) hx hb dX6_fewest_7 (by decide) ?_
        refine lv_istore_n (lv' := [(2, .int 1), (0, .ref hM), (1, .int x1)]) hx hb dX6_fewest_8 rfl hl (by decide) rfl (fun ls hl => ?_)
        refine lv_iconst (v := 0) hx hb dX6_fewest_9 (by decide) ?_
        refine lv_istore_n (lv' := [(3, .int 0), (2, .int 1), (0, .ref hM), (1, .int x1)]) hx hb dX6_fewest_10 rfl hl (by decide) rfl (fun ls hl => ?_)
        exact L11 1000 x1 1 0 M_26 M_17 _ _ _ hP hD hS (lv_sub hl [2, 3, 1, 0] rfl) hf
  unfold fX6_fewest at hf
  refine lv_iconst (v := 1) hx hb dX6_fewest_0 (by decide) ?_
  refine lv_istore_n (lv' := [(1, .int 1), (0, .ref hM)]) hx hb dX6_fewest_1 rfl hl (by decide) rfl (fun ls hl => ?_)
  exact L2 1000 1 (M.2 26) (M.2 17) _ _ _ hP hD hS (lv_sub hl [1, 0] rfl) hf
theorem iX6_ask_X6 : ∀ w ∈ wsX60, w ∈ wsX6_ask := fun _ h => List.mem_cons_of_mem _ (List.mem_append_right _ h)
set_option maxHeartbeats 4000000 in
set_option maxRecDepth 100000 in
theorem kX6_ask (l : Launch) (D : va_G) (cy : Nat → ClassId) (hM : Nat) (aM : Nat → Nat) (sdM : Int64) (sz : Nat) (M : dk_O) (v1 : Int32) (r : Int32) (oM_I : (Nat → Int32)) (oM_26 : (Nat → Int32)) (oM_17 : (Nat → Int32)) (hf : fX6_ask M v1 = some (r, oM_I, oM_26, oM_17)) : dk_MuI l yX6_ask wsX6_ask ({ frames := 7, cells := 0, slots := 0, locals := 162 }) D cy [.ref hM, .int v1] (wMd cy hM aM sdM M) (wMd cy hM aM sdM (oM_I, dk_upA (dk_upA M.2 26 oM_26) 17 oM_17)) sz r := by
  refine Met.ofW (cc := cX6_ask) (maxL := 2) (ret := (some .int)) (by decide) rfl ?_
  intro p e s m args below meth c s₁ B hml hv
  obtain ⟨rfl, hsz, hP, hK, hD0⟩ := hv
  have hx := B.exec
  have hb := B.bytes
  have hr := B.returns
  have hts := atoms_spec (ws := wsX6_ask) B.pre
  have hown : s.vm.findClass RX6 = some m.cls := findClass_of_methodNamed B.named
  have hlocks := B.notSynchronized
  subst hsz
  have hD := hD0.self (sz := s.heap.size)
  generalize hAe : va_A (wMd cy hM aM sdM M) s.heap.size = A at hD ⊢
  have hA : ∀ q : Nat, s.heap.size ≤ q → A q := fun q h => by rw [← hAe]; exact Or.inr h
  have hS : va_S A s.heap s.heap [] := va_S.rf
  have hl := lv_entry ([.ref hM, .int v1]) (n := 2) (Nat.le_of_ble_eq_true rfl)
  rw [lg_entry_eq]
  generalize (lg_sl ([.ref hM, .int v1]) ++ List.replicate (2 - (lg_sl ([.ref hM, .int v1])).length) Slot.unset).toArray = ls at hl ⊢
  have hl : lv_has ls 2 [(0, .ref hM), (1, .int v1)] := hl
  unfold fX6_ask at hf
  refine lv_aload_n hx hb dX6_ask_0 rfl (lv_at hl 0 rfl) ?_
  refine lv_iconst (v := 0) hx hb dX6_ask_1 (by decide) ?_
  refine va_put (D := D) (ci := 6) (v := .int 0) (ty := .int) (C := RX6) (T := TX6) (N := 28) hx hb hts iX6_ask_X6 tyX6 tyX6_ok nmX6 hown hK.1 hP hD hS 0 rfl rfl 0 (by decide) (hts (.fieldLink RX6 61 "DarkPlaceModel" "thrown" "I") (List.mem_of_getElem? (i := 1) rfl)) (fun _ h9 => h9) rfl (by decide +kernel) rfl rfl (Nat.le_of_ble_eq_true rfl) dX6_ask_2 (fun H locs hP hD hS => ?_)
  have hP : va_P D vwCl (wMd cy hM aM sdM (upd M.1 0 0, M.2)) H := hP
  have hD : va_D A (wMd cy hM aM sdM (upd M.1 0 0, M.2)) := hD
  refine lv_iload_n hx hb dX6_ask_5 rfl (lv_at hl 1 rfl) ?_
  by_cases q6_0 : v1 = 0
  · have hf := dk_pos hf q6_0
    refine lv_tableIn (tgt := 52) hx hb dX6_ask_6 (by rw [q6_0]; decide) (by rw [q6_0]; decide) (by rw [q6_0]; rfl) (by decide) ?_
    refine lv_aload_n hx hb dX6_ask_52 rfl (lv_at hl 0 rfl) ?_
    refine va_get (D := D) (ci := 6) (v := .ref (aM 16)) (C := RX6) (T := TX6) (N := 28) hx hb hts iX6_ask_X6 hown hK.1 hP 0 rfl rfl 16 (by decide) (hts (.fieldLink RX6 29 "DarkPlaceModel" "page" "[I") (List.mem_of_getElem? (i := 2) rfl)) (fun _ h9 => h9) rfl dX6_ask_53 ?_
    obtain ⟨r56, k56, hf⟩ := dk_bind hf
    refine dk_ri (va_runS (As := [.ref (aM 16)]) (rest := []) ⟨hx, hb, hml, hown, hts⟩ (kX6_living l D cy (aM 16) (M.2 16) r56 k56) (va_cwS 1 hts gX6_ask_X6_living rfl rfl rfl (by decide +kernel) ⟨Nat.le_of_ble_eq_true rfl, Nat.le_of_ble_eq_true rfl⟩) (dk_preS hK (hP.sub (ws' := wRw cy (aM 16) 21 (M.2 16)) [4] rfl)) rfl rfl hl.1 rfl (lv_room (Nat.le_of_ble_eq_true rfl)) dX6_ask_56 ⟨Nat.zero_le _, Nat.zero_le _⟩) ?_
    have e := Option.some.inj hf
    simp only [Prod.mk.injEq] at e
    obtain ⟨e0, e1, e2, e3⟩ := e
    subst e1
    subst e2
    subst e3
    exact W.iret (v := r56) hx hb hr (fun t ht hW => ⟨⟨r56, (), rfl, e0, by rw [ht]; exact hP, hD⟩, hS.F ht⟩) hS.2.2 dX6_ask_59
  have hf := dk_neg hf q6_0
  by_cases q6_1 : v1 = 1
  · have hf := dk_pos hf q6_1
    refine lv_tableIn (tgt := 60) hx hb dX6_ask_6 (by rw [q6_1]; decide) (by rw [q6_1]; decide) (by rw [q6_1]; rfl) (by decide) ?_
    refine lv_aload_n hx hb dX6_ask_60 rfl (lv_at hl 0 rfl) ?_
    refine va_get (D := D) (ci := 6) (v := .ref (aM 16)) (C := RX6) (T := TX6) (N := 28) hx hb hts iX6_ask_X6 hown hK.1 hP 0 rfl rfl 16 (by decide) (hts (.fieldLink RX6 29 "DarkPlaceModel" "page" "[I") (List.mem_of_getElem? (i := 2) rfl)) (fun _ h9 => h9) rfl dX6_ask_61 ?_
    refine lv_iconst (v := 2) hx hb dX6_ask_64 (by decide) ?_
    refine dk_iald hx hb hK.1 hP 4 0 rfl rfl hf dX6_ask_65 (fun d65 hf => ?_)
    have e := Option.some.inj hf
    simp only [Prod.mk.injEq] at e
    obtain ⟨e0, e1, e2, e3⟩ := e
    subst e1
    subst e2
    subst e3
    exact W.iret (v := d65) hx hb hr (fun t ht hW => ⟨⟨d65, (), rfl, e0, by rw [ht]; exact hP, hD⟩, hS.F ht⟩) hS.2.2 dX6_ask_66
  have hf := dk_neg hf q6_1
  by_cases q6_2 : v1 = 2
  · have hf := dk_pos hf q6_2
    refine lv_tableIn (tgt := 67) hx hb dX6_ask_6 (by rw [q6_2]; decide) (by rw [q6_2]; decide) (by rw [q6_2]; rfl) (by decide) ?_
    refine lv_aload_n hx hb dX6_ask_67 rfl (lv_at hl 0 rfl) ?_
    refine lv_aload_n hx hb dX6_ask_68 rfl (lv_at hl 0 rfl) ?_
    refine va_get (D := D) (ci := 6) (v := .ref (aM 16)) (C := RX6) (T := TX6) (N := 28) hx hb hts iX6_ask_X6 hown hK.1 hP 0 rfl rfl 16 (by decide) (hts (.fieldLink RX6 29 "DarkPlaceModel" "page" "[I") (List.mem_of_getElem? (i := 2) rfl)) (fun _ h9 => h9) rfl dX6_ask_69 ?_
    obtain ⟨r72, k72, hf⟩ := dk_bind hf
    refine dk_ri (va_runV (As := [.ref (aM 16)]) (rest := []) ⟨hx, hb, hml, hown, hts⟩ (kX6_visited l D cy hM aM sdM (aM 16) (upd M.1 0 0, M.2) (M.2 16) r72 k72) (cwV 1 hts gX6_ask_X6_visited rfl rfl rfl (by decide +kernel) ⟨Nat.le_of_ble_eq_true rfl, Nat.le_of_ble_eq_true rfl⟩) (dk_preV hK (hP.sub (ws' := wMs cy hM aM sdM (upd M.1 0 0, M.2) ++ wRw cy (aM 16) 21 (M.2 16)) [0, 1, 2, 3, 4] rfl) (ci := 6) (q0 := 0) rfl rfl) rfl rfl hl.1 rfl (lv_room (Nat.le_of_ble_eq_true rfl)) dX6_ask_72 ⟨Nat.zero_le _, Nat.zero_le _⟩) ?_
    have e := Option.some.inj hf
    simp only [Prod.mk.injEq] at e
    obtain ⟨e0, e1, e2, e3⟩ := e
    subst e1
    subst e2
    subst e3
    exact W.iret (v := r72) hx hb hr (fun t ht hW => ⟨⟨r72, (), rfl, e0, by rw [ht]; exact hP, hD⟩, hS.F ht⟩) hS.2.2 dX6_ask_75
  have hf := dk_neg hf q6_2
  by_cases q6_3 : v1 = 3
  · have hf := dk_pos hf q6_3
    refine lv_tableIn (tgt := 76) hx hb dX6_ask_6 (by rw [q6_3]; decide) (by rw [q6_3]; decide) (by rw [q6_3]; rfl) (by decide) ?_
    refine lv_aload_n hx hb dX6_ask_76 rfl (lv_at hl 0 rfl) ?_
    refine lv_aload_n hx hb dX6_ask_77 rfl (lv_at hl 0 rfl) ?_
    refine va_get (D := D) (ci := 6) (v := .ref (aM 16)) (C := RX6) (T := TX6) (N := 28) hx hb hts iX6_ask_X6 hown hK.1 hP 0 rfl rfl 16 (by decide) (hts (.fieldLink RX6 29 "DarkPlaceModel" "page" "[I") (List.mem_of_getElem? (i := 2) rfl)) (fun _ h9 => h9) rfl dX6_ask_78 ?_
    obtain ⟨r81, k81, hf⟩ := dk_bind hf
    refine dk_ri (va_runV (As := [.ref (aM 16)]) (rest := []) ⟨hx, hb, hml, hown, hts⟩ (kX6_mayBe l D cy hM aM sdM (aM 16) (upd M.1 0 0, M.2) (M.2 16) r81 k81) (cwV 1 hts gX6_ask_X6_mayBe rfl rfl rfl (by decide +kernel) ⟨Nat.le_of_ble_eq_true rfl, Nat.le_of_ble_eq_true rfl⟩) (dk_preV hK (hP.sub (ws' := wMs cy hM aM sdM (upd M.1 0 0, M.2) ++ wRw cy (aM 16) 21 (M.2 16)) [0, 1, 2, 3, 4] rfl) (ci := 6) (q0 := 0) rfl rfl) rfl rfl hl.1 rfl (lv_room (Nat.le_of_ble_eq_true rfl)) dX6_ask_81 ⟨Nat.zero_le _, Nat.zero_le _⟩) ?_
    have e := Option.some.inj hf
    simp only [Prod.mk.injEq] at e
    obtain ⟨e0, e1, e2, e3⟩ := e
    subst e1
    subst e2
    subst e3
    exact W.iret (v := r81) hx hb hr (fun t ht hW => ⟨⟨r81, (), rfl, e0, by rw [ht]; exact hP, hD⟩, hS.F ht⟩) hS.2.2 dX6_ask_84
  have hf := dk_neg hf q6_3
  by_cases q6_4 : v1 = 4
  · have hf := dk_pos hf q6_4
    refine lv_tableIn (tgt := 85) hx hb dX6_ask_6 (by rw [q6_4]; decide) (by rw [q6_4]; decide) (by rw [q6_4]; rfl) (by decide) ?_
    refine lv_aload_n hx hb dX6_ask_85 rfl (lv_at hl 0 rfl) ?_
    refine lv_aload_n hx hb dX6_ask_86 rfl (lv_at hl 0 rfl) ?_
    refine va_get (D := D) (ci := 6) (v := .ref (aM 16)) (C := RX6) (T := TX6) (N := 28) hx hb hts iX6_ask_X6 hown hK.1 hP 0 rfl rfl 16 (by decide) (hts (.fieldLink RX6 29 "DarkPlaceModel" "page" "[I") (List.mem_of_getElem? (i := 2) rfl)) (fun _ h9 => h9) rfl dX6_ask_87 ?_
    obtain ⟨r90, k90, hf⟩ := dk_bind hf
    refine dk_ri (va_runV (As := [.ref (aM 16)]) (rest := []) ⟨hx, hb, hml, hown, hts⟩ (kX6_isKnown l D cy hM aM sdM (aM 16) (upd M.1 0 0, M.2) (M.2 16) r90 k90) (cwV 1 hts gX6_ask_X6_isKnown rfl rfl rfl (by decide +kernel) ⟨Nat.le_of_ble_eq_true rfl, Nat.le_of_ble_eq_true rfl⟩) (dk_preV hK (hP.sub (ws' := wMs cy hM aM sdM (upd M.1 0 0, M.2) ++ wRw cy (aM 16) 21 (M.2 16)) [0, 1, 2, 3, 4] rfl) (ci := 6) (q0 := 0) rfl rfl) rfl rfl hl.1 rfl (lv_room (Nat.le_of_ble_eq_true rfl)) dX6_ask_90 ⟨Nat.zero_le _, Nat.zero_le _⟩) ?_
    refine dk_ieq (tgt := 100) hx hb dX6_ask_93 (by decide) hf (fun hf => ?_) (fun hf => ?_)
    · refine lv_iconst (v := 0) hx hb dX6_ask_100 (by decide) ?_
      have e := Option.some.inj hf
      simp only [Prod.mk.injEq] at e
      obtain ⟨e0, e1, e2, e3⟩ := e
      subst e1
      subst e2
      subst e3
      exact W.iret (v := 0) hx hb hr (fun t ht hW => ⟨⟨0, (), rfl, e0, by rw [ht]; exact hP, hD⟩, hS.F ht⟩) hS.2.2 dX6_ask_101
    · refine lv_iconst (v := 1) hx hb dX6_ask_96 (by decide) ?_
      refine lv_goto (tgt := 101) hx hb dX6_ask_97 (by decide) ?_
      have e := Option.some.inj hf
      simp only [Prod.mk.injEq] at e
      obtain ⟨e0, e1, e2, e3⟩ := e
      subst e1
      subst e2
      subst e3
      exact W.iret (v := 1) hx hb hr (fun t ht hW => ⟨⟨1, (), rfl, e0, by rw [ht]; exact hP, hD⟩, hS.F ht⟩) hS.2.2 dX6_ask_101
  have hf := dk_neg hf q6_4
  by_cases q6_5 : v1 = 5
  · have hf := dk_pos hf q6_5
    refine lv_tableIn (tgt := 102) hx hb dX6_ask_6 (by rw [q6_5]; decide) (by rw [q6_5]; decide) (by rw [q6_5]; rfl) (by decide) ?_
    refine lv_aload_n hx hb dX6_ask_102 rfl (lv_at hl 0 rfl) ?_
    obtain ⟨⟨r103, g103_0, g103_1⟩, k103, hf⟩ := dk_bind hf
    dsimp only at hf
    have hPc := hP.sub (ws' := wMd cy hM aM sdM (upd M.1 0 0, M.2)) [0, 1, 2, 3, 4, 5, 6, 7, 8, 9, 10, 11, 12, 13] rfl
    have hDc := hD.sub (ws' := wMd cy hM aM sdM (upd M.1 0 0, M.2)) [0, 1, 2, 3, 4, 5, 6, 7, 8, 9, 10, 11, 12, 13] (by decide) rfl
    have hFc := va_free (wc := wMd cy hM aM sdM (upd M.1 0 0, M.2)) hD hS hA [0, 1, 2, 3, 4, 5, 6, 7, 8, 9, 10, 11, 12, 13] rfl
    refine va_calli (va_runV (As := []) (rest := []) ⟨hx, hb, hml, hown, hts⟩ (kX6_worst l D cy hM aM sdM H.size (upd M.1 0 0, M.2) r103 g103_0 g103_1 k103) (cwV 0 hts gX6_ask_X6_worst rfl rfl rfl (by decide +kernel) ⟨Nat.le_of_ble_eq_true rfl, Nat.le_of_ble_eq_true rfl⟩) (dk_premV hK hPc hDc (ci := 6) (q0 := 0) rfl rfl) rfl rfl hl.1 rfl (lv_room (Nat.le_of_ble_eq_true rfl)) dX6_ask_103 ⟨Nat.zero_le _, Nat.zero_le _⟩) hS (fun q _ h => hFc q h) hFc (fun xr103 u t H1 locs ht hvm hw hB hz1 hk1 hS => ?_)
    obtain ⟨hP1, hD1⟩ := hB
    rw [ht] at hP1
    rw [hw]
    obtain ⟨hP, hD⟩ := va_join (wr := ([] : List Nat).filterMap (fun i => (wMd cy hM aM sdM (upd M.1 0 0, M.2))[i]?)) (w1 := wMd cy hM aM sdM (upd M.1 0 0, dk_upA (dk_upA M.2 26 g103_0) 17 g103_1)) hP hD [0, 1, 2, 3, 4, 5, 6, 7, 8, 9, 10, 11, 12, 13] [] rfl rfl (by decide) (by decide) hk1 hFc hP1 hD1
    generalize H1 = H at hP hS ⊢
    have hP : va_P D vwCl (wMd cy hM aM sdM (upd M.1 0 0, dk_upA (dk_upA M.2 26 g103_0) 17 g103_1)) H := hP.sub [0, 1, 2, 3, 4, 5, 6, 7, 8, 9, 10, 11, 12, 13] rfl
    have hD : va_D A (wMd cy hM aM sdM (upd M.1 0 0, dk_upA (dk_upA M.2 26 g103_0) 17 g103_1)) := hD.sub [0, 1, 2, 3, 4, 5, 6, 7, 8, 9, 10, 11, 12, 13] (by decide) rfl
    have e := Option.some.inj hf
    simp only [Prod.mk.injEq] at e
    obtain ⟨e0, e1, e2, e3⟩ := e
    subst e1
    subst e2
    subst e3
    exact W.iret (v := r103) hx hb hr (fun t ht hW => ⟨⟨r103, (), rfl, e0, by rw [ht]; exact hP, hD⟩, hS.F ht⟩) hS.2.2 dX6_ask_106
  have hf := dk_neg hf q6_5
  by_cases q6_6 : v1 = 6
  · have hf := dk_pos hf q6_6
    refine lv_tableIn (tgt := 107) hx hb dX6_ask_6 (by rw [q6_6]; decide) (by rw [q6_6]; decide) (by rw [q6_6]; rfl) (by decide) ?_
    refine lv_aload_n hx hb dX6_ask_107 rfl (lv_at hl 0 rfl) ?_
    obtain ⟨⟨r108, g108_0, g108_1⟩, k108, hf⟩ := dk_bind hf
    dsimp only at hf
    have hPc := hP.sub (ws' := wMd cy hM aM sdM (upd M.1 0 0, M.2)) [0, 1, 2, 3, 4, 5, 6, 7, 8, 9, 10, 11, 12, 13] rfl
    have hDc := hD.sub (ws' := wMd cy hM aM sdM (upd M.1 0 0, M.2)) [0, 1, 2, 3, 4, 5, 6, 7, 8, 9, 10, 11, 12, 13] (by decide) rfl
    have hFc := va_free (wc := wMd cy hM aM sdM (upd M.1 0 0, M.2)) hD hS hA [0, 1, 2, 3, 4, 5, 6, 7, 8, 9, 10, 11, 12, 13] rfl
    refine va_calli (va_runV (As := []) (rest := []) ⟨hx, hb, hml, hown, hts⟩ (kX6_fewest l D cy hM aM sdM H.size (upd M.1 0 0, M.2) r108 g108_0 g108_1 k108) (cwV 0 hts gX6_ask_X6_fewest rfl rfl rfl (by decide +kernel) ⟨Nat.le_of_ble_eq_true rfl, Nat.le_of_ble_eq_true rfl⟩) (dk_premV hK hPc hDc (ci := 6) (q0 := 0) rfl rfl) rfl rfl hl.1 rfl (lv_room (Nat.le_of_ble_eq_true rfl)) dX6_ask_108 ⟨Nat.zero_le _, Nat.zero_le _⟩) hS (fun q _ h => hFc q h) hFc (fun xr108 u t H1 locs ht hvm hw hB hz1 hk1 hS => ?_)
    obtain ⟨hP1, hD1⟩ := hB
    rw [ht] at hP1
    rw [hw]
    obtain ⟨hP, hD⟩ := va_join (wr := ([] : List Nat).filterMap (fun i => (wMd cy hM aM sdM (upd M.1 0 0, M.2))[i]?)) (w1 := wMd cy hM aM sdM (upd M.1 0 0, dk_upA (dk_upA M.2 26 g108_0) 17 g108_1)) hP hD [0, 1, 2, 3, 4, 5, 6, 7, 8, 9, 10, 11, 12, 13] [] rfl rfl (by decide) (by decide) hk1 hFc hP1 hD1
    generalize H1 = H at hP hS ⊢
    have hP : va_P D vwCl (wMd cy hM aM sdM (upd M.1 0 0, dk_upA (dk_upA M.2 26 g108_0) 17 g108_1)) H := hP.sub [0, 1, 2, 3, 4, 5, 6, 7, 8, 9, 10, 11, 12, 13] rfl
    have hD : va_D A (wMd cy hM aM sdM (upd M.1 0 0, dk_upA (dk_upA M.2 26 g108_0) 17 g108_1)) := hD.sub [0, 1, 2, 3, 4, 5, 6, 7, 8, 9, 10, 11, 12, 13] (by decide) rfl
    have e := Option.some.inj hf
    simp only [Prod.mk.injEq] at e
    obtain ⟨e0, e1, e2, e3⟩ := e
    subst e1
    subst e2
    subst e3
    exact W.iret (v := r108) hx hb hr (fun t ht hW => ⟨⟨r108, (), rfl, e0, by rw [ht]; exact hP, hD⟩, hS.F ht⟩) hS.2.2 dX6_ask_111
  have hf := dk_neg hf q6_6
  by_cases q6_7 : v1 = 7
  · have hf := dk_pos hf q6_7
    refine lv_tableIn (tgt := 112) hx hb dX6_ask_6 (by rw [q6_7]; decide) (by rw [q6_7]; decide) (by rw [q6_7]; rfl) (by decide) ?_
    refine lv_aload_n hx hb dX6_ask_112 rfl (lv_at hl 0 rfl) ?_
    obtain ⟨r113, k113, hf⟩ := dk_bind hf
    refine dk_ri (va_runV (As := []) (rest := []) ⟨hx, hb, hml, hown, hts⟩ (kX6_fated l D cy hM aM sdM (upd M.1 0 0, M.2) r113 k113) (cwV 0 hts gX6_ask_X6_fated rfl rfl rfl (by decide +kernel) ⟨Nat.le_of_ble_eq_true rfl, Nat.le_of_ble_eq_true rfl⟩) (dk_preV hK (hP.sub (ws' := wMd cy hM aM sdM (upd M.1 0 0, M.2)) [0, 1, 2, 3, 4, 5, 6, 7, 8, 9, 10, 11, 12, 13] rfl) (ci := 6) (q0 := 0) rfl rfl) rfl rfl hl.1 rfl (lv_room (Nat.le_of_ble_eq_true rfl)) dX6_ask_113 ⟨Nat.zero_le _, Nat.zero_le _⟩) ?_
    have e := Option.some.inj hf
    simp only [Prod.mk.injEq] at e
    obtain ⟨e0, e1, e2, e3⟩ := e
    subst e1
    subst e2
    subst e3
    exact W.iret (v := r113) hx hb hr (fun t ht hW => ⟨⟨r113, (), rfl, e0, by rw [ht]; exact hP, hD⟩, hS.F ht⟩) hS.2.2 dX6_ask_116
  have hf := dk_neg hf q6_7
  refine lv_tableOut (tgt := 117) hx hb dX6_ask_6 (dk_tabOut 0 8 (by decide) (fun k h1 h2 => by
    rcases (show k = 0 ∨ k = 1 ∨ k = 2 ∨ k = 3 ∨ k = 4 ∨ k = 5 ∨ k = 6 ∨ k = 7 by omega) with rfl | rfl | rfl | rfl | rfl | rfl | rfl | rfl
    · exact q6_0
    · exact q6_1
    · exact q6_2
    · exact q6_3
    · exact q6_4
    · exact q6_5
    · exact q6_6
    · exact q6_7)) (by decide) ?_
  refine lv_bipush (v := (-2)) hx hb dX6_ask_117 (by decide) ?_
  have e := Option.some.inj hf
  simp only [Prod.mk.injEq] at e
  obtain ⟨e0, e1, e2, e3⟩ := e
  subst e1
  subst e2
  subst e3
  exact W.iret (v := (-2)) hx hb hr (fun t ht hW => ⟨⟨(-2), (), rfl, e0, by rw [ht]; exact hP, hD⟩, hS.F ht⟩) hS.2.2 dX6_ask_119
theorem iX6_fate_X6 : ∀ w ∈ wsX60, w ∈ wsX6_fate := fun _ h => List.mem_cons_of_mem _ (List.mem_append_right _ h)
set_option maxHeartbeats 4000000 in
set_option maxRecDepth 100000 in
theorem kX6_fate (l : Launch) (D : va_G) (cy : Nat → ClassId) (hM : Nat) (aM : Nat → Nat) (sdM : Int64) (sz : Nat) (M : dk_O) (v1 : Int32) (v2 : Int32) (r : Int32) (oM_I : (Nat → Int32)) (oM_26 : (Nat → Int32)) (oM_17 : (Nat → Int32)) (hf : fX6_fate M v1 v2 = some (r, oM_I, oM_26, oM_17)) : dk_MuI l yX6_fate wsX6_fate ({ frames := 6, cells := 0, slots := 0, locals := 138 }) D cy [.ref hM, .int v1, .int v2] (wMd cy hM aM sdM M) (wMd cy hM aM sdM (oM_I, dk_upA (dk_upA M.2 26 oM_26) 17 oM_17)) sz r := by
  refine Met.ofW (cc := cX6_fate) (maxL := 4) (ret := (some .int)) (by decide) rfl ?_
  intro p e s m args below meth c s₁ B hml hv
  obtain ⟨rfl, hsz, hP, hK, hD0⟩ := hv
  have hx := B.exec
  have hb := B.bytes
  have hr := B.returns
  have hts := atoms_spec (ws := wsX6_fate) B.pre
  have hown : s.vm.findClass RX6 = some m.cls := findClass_of_methodNamed B.named
  have hlocks := B.notSynchronized
  subst hsz
  have hD := hD0.self (sz := s.heap.size)
  generalize hAe : va_A (wMd cy hM aM sdM M) s.heap.size = A at hD ⊢
  have hA : ∀ q : Nat, s.heap.size ≤ q → A q := fun q h => by rw [← hAe]; exact Or.inr h
  have hS : va_S A s.heap s.heap [] := va_S.rf
  have hl := lv_entry ([.ref hM, .int v1, .int v2]) (n := 4) (Nat.le_of_ble_eq_true rfl)
  rw [lg_entry_eq]
  generalize (lg_sl ([.ref hM, .int v1, .int v2]) ++ List.replicate (4 - (lg_sl ([.ref hM, .int v1, .int v2])).length) Slot.unset).toArray = ls at hl ⊢
  have hl : lv_has ls 4 [(0, .ref hM), (1, .int v1), (2, .int v2)] := hl
  unfold fX6_fate at hf
  refine lv_aload_n hx hb dX6_fate_0 rfl (lv_at hl 0 rfl) ?_
  refine lv_iconst (v := 0) hx hb dX6_fate_1 (by decide) ?_
  refine va_put (D := D) (ci := 6) (v := .int 0) (ty := .int) (C := RX6) (T := TX6) (N := 28) hx hb hts iX6_fate_X6 tyX6 tyX6_ok nmX6 hown hK.1 hP hD hS 0 rfl rfl 0 (by decide) (hts (.fieldLink RX6 61 "DarkPlaceModel" "thrown" "I") (List.mem_of_getElem? (i := 1) rfl)) (fun _ h9 => h9) rfl (by decide +kernel) rfl rfl (Nat.le_of_ble_eq_true rfl) dX6_fate_2 (fun H locs hP hD hS => ?_)
  have hP : va_P D vwCl (wMd cy hM aM sdM (upd M.1 0 0, M.2)) H := hP
  have hD : va_D A (wMd cy hM aM sdM (upd M.1 0 0, M.2)) := hD
  refine lv_aload_n hx hb dX6_fate_5 rfl (lv_at hl 0 rfl) ?_
  refine lv_iload_n hx hb dX6_fate_6 rfl (lv_at hl 1 rfl) ?_
  obtain ⟨r7, k7, hf⟩ := dk_bind hf
  refine dk_ri (va_runV (As := [.int v1]) (rest := []) ⟨hx, hb, hml, hown, hts⟩ (kX6_noPlace l D cy hM aM sdM (upd M.1 0 0, M.2) v1 r7 k7) (cwV 1 hts gX6_fate_X6_noPlace rfl rfl rfl (by decide +kernel) ⟨Nat.le_of_ble_eq_true rfl, Nat.le_of_ble_eq_true rfl⟩) (dk_preV hK (hP.sub (ws' := wMs cy hM aM sdM (upd M.1 0 0, M.2)) [0, 1, 2, 3] rfl) (ci := 6) (q0 := 0) rfl rfl) rfl rfl hl.1 rfl (lv_room (Nat.le_of_ble_eq_true rfl)) dX6_fate_7 ⟨Nat.zero_le _, Nat.zero_le _⟩) ?_
  refine dk_ieq (tgt := 15) hx hb dX6_fate_10 (by decide) hf (fun hf => ?_) (fun hf => ?_)
  · refine lv_iload_n hx hb dX6_fate_15 rfl (lv_at hl 2 rfl) ?_
    refine lv_i2l hx hb dX6_fate_16 rfl ?_
    refine lv_lconst (v := 0) hx hb dX6_fate_17 (by decide) ?_
    refine lv_ldc2 hx hb hown (hts (.constantLong RX6 208 (2)) (List.mem_of_getElem? (i := 2) rfl)) dX6_fate_18 ?_
    obtain ⟨r21, k21, hf⟩ := dk_bind hf
    refine dk_ri (va_runS (As := [.long v2.toInt64, .long 0, .long 2]) (rest := []) ⟨hx, hb, hml, hown, hts⟩ (kX6_in l D cy v2.toInt64 0 2 r21 k21) (va_cwS 3 hts gX6_fate_X6_in rfl rfl rfl (by decide +kernel) ⟨Nat.le_of_ble_eq_true rfl, Nat.le_of_ble_eq_true rfl⟩) (dk_preS hK (hP.sub (ws' := []) [] rfl)) rfl rfl hl.1 rfl (lv_room (Nat.le_of_ble_eq_true rfl)) dX6_fate_21 ⟨Nat.zero_le _, Nat.zero_le _⟩) ?_
    refine dk_ine (tgt := 30) hx hb dX6_fate_24 (by decide) hf (fun hf => ?_) (fun hf => ?_)
    · refine lv_aload_n hx hb dX6_fate_30 rfl (lv_at hl 0 rfl) ?_
      refine lv_aload_n hx hb dX6_fate_31 rfl (lv_at hl 0 rfl) ?_
      refine va_get (D := D) (ci := 6) (v := .ref (aM 16)) (C := RX6) (T := TX6) (N := 28) hx hb hts iX6_fate_X6 hown hK.1 hP 0 rfl rfl 16 (by decide) (hts (.fieldLink RX6 29 "DarkPlaceModel" "page" "[I") (List.mem_of_getElem? (i := 3) rfl)) (fun _ h9 => h9) rfl dX6_fate_32 ?_
      refine lv_iload_n hx hb dX6_fate_35 rfl (lv_at hl 1 rfl) ?_
      obtain ⟨r36, k36, hf⟩ := dk_bind hf
      refine dk_ri (va_runV (As := [.ref (aM 16), .int v1]) (rest := []) ⟨hx, hb, hml, hown, hts⟩ (kX6_isFree l D cy hM aM sdM (aM 16) (upd M.1 0 0, M.2) (M.2 16) v1 r36 k36) (cwV 2 hts gX6_fate_X6_isFree rfl rfl rfl (by decide +kernel) ⟨Nat.le_of_ble_eq_true rfl, Nat.le_of_ble_eq_true rfl⟩) (dk_preV hK (hP.sub (ws' := wMs cy hM aM sdM (upd M.1 0 0, M.2) ++ wRw cy (aM 16) 21 (M.2 16)) [0, 1, 2, 3, 4] rfl) (ci := 6) (q0 := 0) rfl rfl) rfl rfl hl.1 rfl (lv_room (Nat.le_of_ble_eq_true rfl)) dX6_fate_36 ⟨Nat.zero_le _, Nat.zero_le _⟩) ?_
      refine dk_ine (tgt := 45) hx hb dX6_fate_39 (by decide) hf (fun hf => ?_) (fun hf => ?_)
      · refine lv_aload_n hx hb dX6_fate_45 rfl (lv_at hl 0 rfl) ?_
        refine va_get (D := D) (ci := 6) (v := .ref (aM 16)) (C := RX6) (T := TX6) (N := 28) hx hb hts iX6_fate_X6 hown hK.1 hP 0 rfl rfl 16 (by decide) (hts (.fieldLink RX6 29 "DarkPlaceModel" "page" "[I") (List.mem_of_getElem? (i := 3) rfl)) (fun _ h9 => h9) rfl dX6_fate_46 ?_
        refine lv_aload_n hx hb dX6_fate_49 rfl (lv_at hl 0 rfl) ?_
        refine va_get (D := D) (ci := 6) (v := .ref (aM 17)) (C := RX6) (T := TX6) (N := 28) hx hb hts iX6_fate_X6 hown hK.1 hP 0 rfl rfl 17 (by decide) (hts (.fieldLink RX6 32 "DarkPlaceModel" "trial" "[I") (List.mem_of_getElem? (i := 4) rfl)) (fun _ h9 => h9) rfl dX6_fate_50 ?_
        obtain ⟨g53_0, k53, hf⟩ := dk_bind hf
        have hPc := hP.sub (ws' := wRw cy (aM 16) 21 (M.2 16) ++ wRw cy (aM 17) 21 (M.2 17)) [4, 5] rfl
        have hDc := hD.sub (ws' := wRw cy (aM 16) 21 (M.2 16) ++ wRw cy (aM 17) 21 (M.2 17)) [4, 5] (by decide) rfl
        have hFc := va_free (wc := wRw cy (aM 16) 21 (M.2 16) ++ wRw cy (aM 17) 21 (M.2 17)) hD hS hA [4, 5] rfl
        refine va_callv (va_runS (As := [.ref (aM 16), .ref (aM 17)]) (rest := []) ⟨hx, hb, hml, hown, hts⟩ (kX6_lay l D cy (aM 16) (aM 17) H.size (M.2 16) (M.2 17) g53_0 k53) (va_cwS 2 hts gX6_fate_X6_lay rfl rfl rfl (by decide +kernel) ⟨Nat.le_of_ble_eq_true rfl, Nat.le_of_ble_eq_true rfl⟩) (dk_premS hK hPc hDc) rfl rfl hl.1 rfl (lv_room (Nat.le_of_ble_eq_true rfl)) dX6_fate_53 ⟨Nat.zero_le _, Nat.zero_le _⟩) hS (fun q _ h => hFc q h) hFc (fun u t H1 locs ht hvm hw hB hz1 hk1 hS => ?_)
        obtain ⟨hP1, hD1⟩ := hB
        rw [ht] at hP1
        obtain ⟨hP, hD⟩ := va_join (wr := ([0, 1, 2, 3, 6, 7, 8, 9, 10, 11, 12, 13] : List Nat).filterMap (fun i => (wMd cy hM aM sdM (upd M.1 0 0, M.2))[i]?)) (w1 := wRw cy (aM 16) 21 (M.2 16) ++ wRw cy (aM 17) 21 g53_0) hP hD [4, 5] [0, 1, 2, 3, 6, 7, 8, 9, 10, 11, 12, 13] rfl rfl (by decide) (by decide) hk1 hFc hP1 hD1
        generalize H1 = H at hP hS ⊢
        have hP : va_P D vwCl (wMd cy hM aM sdM (upd M.1 0 0, dk_upA M.2 17 g53_0)) H := hP.sub [0, 1, 2, 3, 12, 13, 4, 5, 6, 7, 8, 9, 10, 11] rfl
        have hD : va_D A (wMd cy hM aM sdM (upd M.1 0 0, dk_upA M.2 17 g53_0)) := hD.sub [0, 1, 2, 3, 12, 13, 4, 5, 6, 7, 8, 9, 10, 11] (by decide) rfl
        refine lv_aload_n hx hb dX6_fate_56 rfl (lv_at hl 0 rfl) ?_
        refine va_get (D := D) (ci := 6) (v := .ref (aM 17)) (C := RX6) (T := TX6) (N := 28) hx hb hts iX6_fate_X6 hown hK.1 hP 0 rfl rfl 17 (by decide) (hts (.fieldLink RX6 32 "DarkPlaceModel" "trial" "[I") (List.mem_of_getElem? (i := 4) rfl)) (fun _ h9 => h9) rfl dX6_fate_57 ?_
        refine lv_iconst (v := 0) hx hb dX6_fate_60 (by decide) ?_
        refine lv_iload_n hx hb dX6_fate_61 rfl (lv_at hl 1 rfl) ?_
        refine dk_iast hx hb hK.1 hP hD hS 5 0 rfl rfl hf dX6_fate_62 (fun f62 H locs hP hD hS hf => ?_)
        have hP : va_P D vwCl (wMd cy hM aM sdM (upd M.1 0 0, dk_upA M.2 17 f62)) H := hP
        have hD : va_D A (wMd cy hM aM sdM (upd M.1 0 0, dk_upA M.2 17 f62)) := hD
        refine lv_aload_n hx hb dX6_fate_63 rfl (lv_at hl 0 rfl) ?_
        obtain ⟨⟨r64, g64_0, g64_1⟩, k64, hf⟩ := dk_bind hf
        dsimp only at hf
        have hPc := hP.sub (ws' := wMd cy hM aM sdM (upd M.1 0 0, dk_upA M.2 17 f62)) [0, 1, 2, 3, 4, 5, 6, 7, 8, 9, 10, 11, 12, 13] rfl
        have hDc := hD.sub (ws' := wMd cy hM aM sdM (upd M.1 0 0, dk_upA M.2 17 f62)) [0, 1, 2, 3, 4, 5, 6, 7, 8, 9, 10, 11, 12, 13] (by decide) rfl
        have hFc := va_free (wc := wMd cy hM aM sdM (upd M.1 0 0, dk_upA M.2 17 f62)) hD hS hA [0, 1, 2, 3, 4, 5, 6, 7, 8, 9, 10, 11, 12, 13] rfl
        refine va_calli (va_runV (As := []) (rest := []) ⟨hx, hb, hml, hown, hts⟩ (kX6_runTrial l D cy hM aM sdM H.size (upd M.1 0 0, dk_upA M.2 17 f62) r64 g64_0 g64_1 k64) (cwV 0 hts gX6_fate_X6_runTrial rfl rfl rfl (by decide +kernel) ⟨Nat.le_of_ble_eq_true rfl, Nat.le_of_ble_eq_true rfl⟩) (dk_premV hK hPc hDc (ci := 6) (q0 := 0) rfl rfl) rfl rfl hl.1 rfl (lv_room (Nat.le_of_ble_eq_true rfl)) dX6_fate_64 ⟨Nat.zero_le _, Nat.zero_le _⟩) hS (fun q _ h => hFc q h) hFc (fun xr64 u t H1 locs ht hvm hw hB hz1 hk1 hS => ?_)
        obtain ⟨hP1, hD1⟩ := hB
        rw [ht] at hP1
        rw [hw]
        obtain ⟨hP, hD⟩ := va_join (wr := ([] : List Nat).filterMap (fun i => (wMd cy hM aM sdM (upd M.1 0 0, dk_upA M.2 17 f62))[i]?)) (w1 := wMd cy hM aM sdM (upd M.1 0 0, dk_upA (dk_upA M.2 26 g64_0) 17 g64_1)) hP hD [0, 1, 2, 3, 4, 5, 6, 7, 8, 9, 10, 11, 12, 13] [] rfl rfl (by decide) (by decide) hk1 hFc hP1 hD1
        generalize H1 = H at hP hS ⊢
        have hP : va_P D vwCl (wMd cy hM aM sdM (upd M.1 0 0, dk_upA (dk_upA M.2 26 g64_0) 17 g64_1)) H := hP.sub [0, 1, 2, 3, 4, 5, 6, 7, 8, 9, 10, 11, 12, 13] rfl
        have hD : va_D A (wMd cy hM aM sdM (upd M.1 0 0, dk_upA (dk_upA M.2 26 g64_0) 17 g64_1)) := hD.sub [0, 1, 2, 3, 4, 5, 6, 7, 8, 9, 10, 11, 12, 13] (by decide) rfl
        refine lv_istore_n (lv' := [(3, .int r64), (0, .ref hM), (1, .int v1), (2, .int v2)]) hx hb dX6_fate_67 rfl hl (by decide) rfl (fun ls hl => ?_)
        refine lv_iload_n hx hb dX6_fate_68 rfl (lv_at hl 3 rfl) ?_
        refine dk_ine (tgt := 76) hx hb dX6_fate_69 (by decide) hf (fun hf => ?_) (fun hf => ?_)
        · refine lv_iload_n hx hb dX6_fate_76 rfl (lv_at hl 3 rfl) ?_
          refine lv_iconst (v := 1) hx hb dX6_fate_77 (by decide) ?_
          refine dk_cne (tgt := 90) hx hb dX6_fate_78 (by decide) hf (fun hf => ?_) (fun hf => ?_)
          · refine lv_aload_n hx hb dX6_fate_90 rfl (lv_at hl 1 rfl) ?_
            refine va_get (D := D) (ci := 6) (v := .ref (aM 17)) (C := RX6) (T := TX6) (N := 28) hx hb hts iX6_fate_X6 hown hK.1 hP 0 rfl rfl 17 (by decide) (hts (.fieldLink RX6 32 "DarkPlaceModel" "trial" "[I") (List.mem_of_getElem? (i := 4) rfl)) (fun _ h9 => h9) rfl dX6_fate_91 ?_
            obtain ⟨r94, k94, hf⟩ := dk_bind hf
            refine dk_ri (va_runS (As := [.ref (aM 17)]) (rest := []) ⟨hx, hb, hml, hown, hts⟩ (kX6_living l D cy (aM 17) g64_1 r94 k94) (va_cwS 1 hts gX6_fate_X6_living rfl rfl rfl (by decide +kernel) ⟨Nat.le_of_ble_eq_true rfl, Nat.le_of_ble_eq_true rfl⟩) (dk_preS hK (hP.sub (ws' := wRw cy (aM 17) 21 g64_1) [5] rfl)) rfl rfl hl.1 rfl (lv_room (Nat.le_of_ble_eq_true rfl)) dX6_fate_94 ⟨Nat.zero_le _, Nat.zero_le _⟩) ?_
            have e := Option.some.inj hf
            simp only [Prod.mk.injEq] at e
            obtain ⟨e0, e1, e2, e3⟩ := e
            subst e1
            subst e2
            subst e3
            exact W.iret (v := r94) hx hb hr (fun t ht hW => ⟨⟨r94, (), rfl, e0, by rw [ht]; exact hP, hD⟩, hS.F ht⟩) hS.2.2 dX6_fate_97
          · refine lv_aload_n hx hb dX6_fate_81 rfl (lv_at hl 1 rfl) ?_
            refine va_get (D := D) (ci := 6) (v := .ref (aM 17)) (C := RX6) (T := TX6) (N := 28) hx hb hts iX6_fate_X6 hown hK.1 hP 0 rfl rfl 17 (by decide) (hts (.fieldLink RX6 32 "DarkPlaceModel" "trial" "[I") (List.mem_of_getElem? (i := 4) rfl)) (fun _ h9 => h9) rfl dX6_fate_82 ?_
            refine lv_iconst (v := 2) hx hb dX6_fate_85 (by decide) ?_
            refine dk_iald hx hb hK.1 hP 5 0 rfl rfl hf dX6_fate_86 (fun d86 hf => ?_)
            refine lv_goto (tgt := 97) hx hb dX6_fate_87 (by decide) ?_
            have e := Option.some.inj hf
            simp only [Prod.mk.injEq] at e
            obtain ⟨e0, e1, e2, e3⟩ := e
            subst e1
            subst e2
            subst e3
            exact W.iret (v := d86) hx hb hr (fun t ht hW => ⟨⟨d86, (), rfl, e0, by rw [ht]; exact hP, hD⟩, hS.F ht⟩) hS.2.2 dX6_fate_97
        · refine lv_iload_n hx hb dX6_fate_72 rfl (lv_at hl 0 rfl) ?_
          refine lv_goto (tgt := 97) hx hb dX6_fate_73 (by decide) ?_
          have e := Option.some.inj hf
          simp only [Prod.mk.injEq] at e
          obtain ⟨e0, e1, e2, e3⟩ := e
          subst e1
          subst e2
          subst e3
          exact W.iret (v := r64) hx hb hr (fun t ht hW => ⟨⟨r64, (), rfl, e0, by rw [ht]; exact hP, hD⟩, hS.F ht⟩) hS.2.2 dX6_fate_97
      · refine lv_bipush (v := (-3)) hx hb dX6_fate_42 (by decide) ?_
        have e := Option.some.inj hf
        simp only [Prod.mk.injEq] at e
        obtain ⟨e0, e1, e2, e3⟩ := e
        subst e1
        subst e2
        subst e3
        exact W.iret (v := (-3)) hx hb hr (fun t ht hW => ⟨⟨(-3), (), rfl, e0, by rw [ht]; exact hP, hD⟩, hS.F ht⟩) hS.2.2 dX6_fate_44
    · refine lv_bipush (v := (-2)) hx hb dX6_fate_27 (by decide) ?_
      have e := Option.some.inj hf
      simp only [Prod.mk.injEq] at e
      obtain ⟨e0, e1, e2, e3⟩ := e
      subst e1
      subst e2
      subst e3
      exact W.iret (v := (-2)) hx hb hr (fun t ht hW => ⟨⟨(-2), (), rfl, e0, by rw [ht]; exact hP, hD⟩, hS.F ht⟩) hS.2.2 dX6_fate_29
  · refine lv_iconst (v := (-1)) hx hb dX6_fate_13 (by decide) ?_
    have e := Option.some.inj hf
    simp only [Prod.mk.injEq] at e
    obtain ⟨e0, e1, e2, e3⟩ := e
    subst e1
    subst e2
    subst e3
    exact W.iret (v := (-1)) hx hb hr (fun t ht hW => ⟨⟨(-1), (), rfl, e0, by rw [ht]; exact hP, hD⟩, hS.F ht⟩) hS.2.2 dX6_fate_14
theorem iX6_does_X6 : ∀ w ∈ wsX60, w ∈ wsX6_does := fun _ h => List.mem_cons_of_mem _ (List.mem_append_right _ h)
set_option maxHeartbeats 4000000 in
set_option maxRecDepth 100000 in
theorem kX6_does (l : Launch) (D : va_G) (cy : Nat → ClassId) (hM : Nat) (aM : Nat → Nat) (sdM : Int64) (sz : Nat) (M : dk_O) (v1 : Int32) (v2 : Int32) (v3 : Int32) (r : Int32) (oM_26 : (Nat → Int32)) (oM_17 : (Nat → Int32)) (hf : fX6_does M v1 v2 v3 = some (r, oM_26, oM_17)) : dk_MuI l yX6_does wsX6_does ({ frames := 5, cells := 0, slots := 0, locals := 117 }) D cy [.ref hM, .int v1, .int v2, .int v3] (wMd cy hM aM sdM M) (wMd cy hM aM sdM (M.1, dk_upA (dk_upA M.2 26 oM_26) 17 oM_17)) sz r := by
  refine Met.ofW (cc := cX6_does) (maxL := 5) (ret := (some .boolean)) (by decide) rfl ?_
  intro p e s m args below meth c s₁ B hml hv
  obtain ⟨rfl, hsz, hP, hK, hD0⟩ := hv
  have hx := B.exec
  have hb := B.bytes
  have hr := B.returns
  have hts := atoms_spec (ws := wsX6_does) B.pre
  have hown : s.vm.findClass RX6 = some m.cls := findClass_of_methodNamed B.named
  have hlocks := B.notSynchronized
  subst hsz
  have hD := hD0.self (sz := s.heap.size)
  generalize hAe : va_A (wMd cy hM aM sdM M) s.heap.size = A at hD ⊢
  have hA : ∀ q : Nat, s.heap.size ≤ q → A q := fun q h => by rw [← hAe]; exact Or.inr h
  have hS : va_S A s.heap s.heap [] := va_S.rf
  have hl := lv_entry ([.ref hM, .int v1, .int v2, .int v3]) (n := 5) (Nat.le_of_ble_eq_true rfl)
  rw [lg_entry_eq]
  generalize (lg_sl ([.ref hM, .int v1, .int v2, .int v3]) ++ List.replicate (5 - (lg_sl ([.ref hM, .int v1, .int v2, .int v3])).length) Slot.unset).toArray = ls at hl ⊢
  have hl : lv_has ls 5 [(0, .ref hM), (1, .int v1), (2, .int v2), (3, .int v3)] := hl
  unfold fX6_does at hf
  refine lv_aload_n hx hb dX6_does_0 rfl (lv_at hl 0 rfl) ?_
  refine lv_aload_n hx hb dX6_does_1 rfl (lv_at hl 0 rfl) ?_
  refine va_get (D := D) (ci := 6) (v := .ref (aM 17)) (C := RX6) (T := TX6) (N := 28) hx hb hts iX6_does_X6 hown hK.1 hP 0 rfl rfl 17 (by decide) (hts (.fieldLink RX6 32 "DarkPlaceModel" "trial" "[I") (List.mem_of_getElem? (i := 1) rfl)) (fun _ h9 => h9) rfl dX6_does_2 ?_
  obtain ⟨r5, k5, hf⟩ := dk_bind hf
  refine dk_ri (va_runV (As := [.ref (aM 17)]) (rest := []) ⟨hx, hb, hml, hown, hts⟩ (kX6_mayBe l D cy hM aM sdM (aM 17) M (M.2 17) r5 k5) (cwV 1 hts gX6_does_X6_mayBe rfl rfl rfl (by decide +kernel) ⟨Nat.le_of_ble_eq_true rfl, Nat.le_of_ble_eq_true rfl⟩) (dk_preV hK (hP.sub (ws' := wMs cy hM aM sdM M ++ wRw cy (aM 17) 21 (M.2 17)) [0, 1, 2, 3, 5] rfl) (ci := 6) (q0 := 0) rfl rfl) rfl rfl hl.1 rfl (lv_room (Nat.le_of_ble_eq_true rfl)) dX6_does_5 ⟨Nat.zero_le _, Nat.zero_le _⟩) ?_
  refine lv_istore (lv' := [(4, .int r5), (0, .ref hM), (1, .int v1), (2, .int v2), (3, .int v3)]) hx hb dX6_does_8 hl (by decide) rfl (fun ls hl => ?_)
  refine lv_iload_n hx hb dX6_does_10 rfl (lv_at hl 2 rfl) ?_
  by_cases q11_1 : v1 = 1
  · have hf := dk_pos hf q11_1
    refine lv_tableIn (tgt := 52) hx hb dX6_does_11 (by rw [q11_1]; decide) (by rw [q11_1]; decide) (by rw [q11_1]; rfl) (by decide) ?_
    refine lv_aload_n hx hb dX6_does_52 rfl (lv_at hl 1 rfl) ?_
    refine lv_aload_n hx hb dX6_does_53 rfl (lv_at hl 1 rfl) ?_
    refine va_get (D := D) (ci := 6) (v := .ref (aM 17)) (C := RX6) (T := TX6) (N := 28) hx hb hts iX6_does_X6 hown hK.1 hP 0 rfl rfl 17 (by decide) (hts (.fieldLink RX6 32 "DarkPlaceModel" "trial" "[I") (List.mem_of_getElem? (i := 1) rfl)) (fun _ h9 => h9) rfl dX6_does_54 ?_
    refine lv_iload_n hx hb dX6_does_57 rfl (lv_at hl 3 rfl) ?_
    refine lv_iload_n hx hb dX6_does_58 rfl (lv_at hl 4 rfl) ?_
    obtain ⟨r59, k59, hf⟩ := dk_bind hf
    refine dk_ri (va_runV (As := [.ref (aM 17), .int v2, .int v3]) (rest := []) ⟨hx, hb, hml, hown, hts⟩ (kX6_canStep l D cy hM aM sdM (aM 17) M (M.2 17) v2 v3 r59 k59) (cwV 3 hts gX6_does_X6_canStep rfl rfl rfl (by decide +kernel) ⟨Nat.le_of_ble_eq_true rfl, Nat.le_of_ble_eq_true rfl⟩) (dk_preV hK (hP.sub (ws' := wMs cy hM aM sdM M ++ wRw cy (aM 17) 21 (M.2 17)) [0, 1, 2, 3, 5] rfl) (ci := 6) (q0 := 0) rfl rfl) rfl rfl hl.1 rfl (lv_room (Nat.le_of_ble_eq_true rfl)) dX6_does_59 ⟨Nat.zero_le _, Nat.zero_le _⟩) ?_
    refine dk_ine (tgt := 67) hx hb dX6_does_62 (by decide) hf (fun hf => ?_) (fun hf => ?_)
    · refine lv_aload_n hx hb dX6_does_67 rfl (lv_at hl 1 rfl) ?_
      refine lv_aload_n hx hb dX6_does_68 rfl (lv_at hl 1 rfl) ?_
      refine va_get (D := D) (ci := 6) (v := .ref (aM 17)) (C := RX6) (T := TX6) (N := 28) hx hb hts iX6_does_X6 hown hK.1 hP 0 rfl rfl 17 (by decide) (hts (.fieldLink RX6 32 "DarkPlaceModel" "trial" "[I") (List.mem_of_getElem? (i := 1) rfl)) (fun _ h9 => h9) rfl dX6_does_69 ?_
      refine lv_iload_n hx hb dX6_does_72 rfl (lv_at hl 3 rfl) ?_
      refine lv_iload_n hx hb dX6_does_73 rfl (lv_at hl 4 rfl) ?_
      obtain ⟨g74_0, k74, hf⟩ := dk_bind hf
      have hPc := hP.sub (ws' := wMs cy hM aM sdM M ++ wRw cy (aM 17) 21 (M.2 17)) [0, 1, 2, 3, 5] rfl
      have hDc := hD.sub (ws' := wMs cy hM aM sdM M ++ wRw cy (aM 17) 21 (M.2 17)) [0, 1, 2, 3, 5] (by decide) rfl
      have hFc := va_free (wc := wMs cy hM aM sdM M ++ wRw cy (aM 17) 21 (M.2 17)) hD hS hA [0, 1, 2, 3, 5] rfl
      refine va_callv (va_runV (As := [.ref (aM 17), .int v2, .int v3]) (rest := []) ⟨hx, hb, hml, hown, hts⟩ (kX6_stepOn l D cy hM aM sdM (aM 17) s.heap.size M (M.2 17) v2 v3 g74_0 k74) (cwV 3 hts gX6_does_X6_stepOn rfl rfl rfl (by decide +kernel) ⟨Nat.le_of_ble_eq_true rfl, Nat.le_of_ble_eq_true rfl⟩) (dk_premV hK hPc hDc (ci := 6) (q0 := 0) rfl rfl) rfl rfl hl.1 rfl (lv_room (Nat.le_of_ble_eq_true rfl)) dX6_does_74 ⟨Nat.zero_le _, Nat.zero_le _⟩) hS (fun q _ h => hFc q h) hFc (fun u t H1 locs ht hvm hw hB hz1 hk1 hS => ?_)
      obtain ⟨hP1, hD1⟩ := hB
      rw [ht] at hP1
      obtain ⟨hP, hD⟩ := va_join (wr := ([4, 6, 7, 8, 9, 10, 11, 12, 13] : List Nat).filterMap (fun i => (wMd cy hM aM sdM M)[i]?)) (w1 := wMs cy hM aM sdM (M.1, dk_upA M.2 17 g74_0) ++ wRw cy (aM 17) 21 g74_0) hP hD [0, 1, 2, 3, 5] [4, 6, 7, 8, 9, 10, 11, 12, 13] rfl rfl (by decide) (by decide) hk1 hFc hP1 hD1
      generalize H1 = H at hP hS ⊢
      have hP : va_P D vwCl (wMd cy hM aM sdM (M.1, dk_upA M.2 17 g74_0)) H := hP.sub [9, 10, 11, 12, 0, 13, 1, 2, 3, 4, 5, 6, 7, 8] rfl
      have hD : va_D A (wMd cy hM aM sdM (M.1, dk_upA M.2 17 g74_0)) := hD.sub [9, 10, 11, 12, 0, 13, 1, 2, 3, 4, 5, 6, 7, 8] (by decide) rfl
      refine lv_iconst (v := 1) hx hb dX6_does_77 (by decide) ?_
      have e := Option.some.inj hf
      simp only [Prod.mk.injEq] at e
      obtain ⟨e0, e1, e2⟩ := e
      subst e1
      subst e2
      exact W.zret (v := 1) hx hb hr rfl (fun t ht hW => ⟨⟨1, (), rfl, e0, by rw [ht]; exact hP, hD⟩, hS.F ht⟩) hS.2.2 dX6_does_78
    · refine lv_iconst (v := 0) hx hb dX6_does_65 (by decide) ?_
      have e := Option.some.inj hf
      simp only [Prod.mk.injEq] at e
      obtain ⟨e0, e1, e2⟩ := e
      subst e1
      subst e2
      exact W.zret (v := 0) hx hb hr rfl (fun t ht hW => ⟨⟨0, (), rfl, e0, by rw [ht]; exact hP, hD⟩, hS.F ht⟩) hS.2.2 dX6_does_66
  have hf := dk_neg hf q11_1
  by_cases q11_2 : v1 = 2
  · have hf := dk_pos hf q11_2
    refine lv_tableIn (tgt := 79) hx hb dX6_does_11 (by rw [q11_2]; decide) (by rw [q11_2]; decide) (by rw [q11_2]; rfl) (by decide) ?_
    refine lv_iload_n hx hb dX6_does_79 rfl (lv_at hl 3 rfl) ?_
    refine dk_ine (tgt := 97) hx hb dX6_does_80 (by decide) hf (fun hf => ?_) (fun hf => ?_)
    · refine lv_iconst (v := 0) hx hb dX6_does_97 (by decide) ?_
      have e := Option.some.inj hf
      simp only [Prod.mk.injEq] at e
      obtain ⟨e0, e1, e2⟩ := e
      subst e1
      subst e2
      exact W.zret (v := 0) hx hb hr rfl (fun t ht hW => ⟨⟨0, (), rfl, e0, by rw [ht]; exact hP, hD⟩, hS.F ht⟩) hS.2.2 dX6_does_98
    · refine lv_iload_n hx hb dX6_does_83 rfl (lv_at hl 4 rfl) ?_
      refine dk_ine (tgt := 97) hx hb dX6_does_84 (by decide) hf (fun hf => ?_) (fun hf => ?_)
      · refine lv_iconst (v := 0) hx hb dX6_does_97 (by decide) ?_
        have e := Option.some.inj hf
        simp only [Prod.mk.injEq] at e
        obtain ⟨e0, e1, e2⟩ := e
        subst e1
        subst e2
        exact W.zret (v := 0) hx hb hr rfl (fun t ht hW => ⟨⟨0, (), rfl, e0, by rw [ht]; exact hP, hD⟩, hS.F ht⟩) hS.2.2 dX6_does_98
      · refine lv_aload_n hx hb dX6_does_87 rfl (lv_at hl 1 rfl) ?_
        refine va_get (D := D) (ci := 6) (v := .ref (aM 17)) (C := RX6) (T := TX6) (N := 28) hx hb hts iX6_does_X6 hown hK.1 hP 0 rfl rfl 17 (by decide) (hts (.fieldLink RX6 32 "DarkPlaceModel" "trial" "[I") (List.mem_of_getElem? (i := 1) rfl)) (fun _ h9 => h9) rfl dX6_does_88 ?_
        obtain ⟨r91, k91, hf⟩ := dk_bind hf
        refine dk_ri (va_runS (As := [.ref (aM 17)]) (rest := []) ⟨hx, hb, hml, hown, hts⟩ (kX6_living l D cy (aM 17) (M.2 17) r91 k91) (va_cwS 1 hts gX6_does_X6_living rfl rfl rfl (by decide +kernel) ⟨Nat.le_of_ble_eq_true rfl, Nat.le_of_ble_eq_true rfl⟩) (dk_preS hK (hP.sub (ws' := wRw cy (aM 17) 21 (M.2 17)) [5] rfl)) rfl rfl hl.1 rfl (lv_room (Nat.le_of_ble_eq_true rfl)) dX6_does_91 ⟨Nat.zero_le _, Nat.zero_le _⟩) ?_
        refine dk_ine (tgt := 99) hx hb dX6_does_94 (by decide) hf (fun hf => ?_) (fun hf => ?_)
        · refine lv_aload_n hx hb dX6_does_99 rfl (lv_at hl 1 rfl) ?_
          refine lv_aload_n hx hb dX6_does_100 rfl (lv_at hl 1 rfl) ?_
          refine va_get (D := D) (ci := 6) (v := .ref (aM 17)) (C := RX6) (T := TX6) (N := 28) hx hb hts iX6_does_X6 hown hK.1 hP 0 rfl rfl 17 (by decide) (hts (.fieldLink RX6 32 "DarkPlaceModel" "trial" "[I") (List.mem_of_getElem? (i := 1) rfl)) (fun _ h9 => h9) rfl dX6_does_101 ?_
          obtain ⟨⟨r104, g104_0, g104_1⟩, k104, hf⟩ := dk_bind hf
          dsimp only at hf
          have hPc := hP.sub (ws' := wMs cy hM aM sdM M ++ wRw cy (aM 17) 21 (M.2 17)) [0, 1, 2, 3, 5] rfl
          have hDc := hD.sub (ws' := wMs cy hM aM sdM M ++ wRw cy (aM 17) 21 (M.2 17)) [0, 1, 2, 3, 5] (by decide) rfl
          have hFc := va_free (wc := wMs cy hM aM sdM M ++ wRw cy (aM 17) 21 (M.2 17)) hD hS hA [0, 1, 2, 3, 5] rfl
          refine va_calli (va_runV (As := [.ref (aM 17)]) (rest := []) ⟨hx, hb, hml, hown, hts⟩ (kX6_roundOn l D cy hM aM sdM (aM 17) s.heap.size M (M.2 17) r104 g104_0 g104_1 k104) (cwV 1 hts gX6_does_X6_roundOn rfl rfl rfl (by decide +kernel) ⟨Nat.le_of_ble_eq_true rfl, Nat.le_of_ble_eq_true rfl⟩) (dk_premV hK hPc hDc (ci := 6) (q0 := 0) rfl rfl) rfl rfl hl.1 rfl (lv_room (Nat.le_of_ble_eq_true rfl)) dX6_does_104 ⟨Nat.zero_le _, Nat.zero_le _⟩) hS (fun q _ h => hFc q h) hFc (fun xr104 u t H1 locs ht hvm hw hB hz1 hk1 hS => ?_)
          obtain ⟨hP1, hD1⟩ := hB
          rw [ht] at hP1
          rw [hw]
          obtain ⟨hP, hD⟩ := va_join (wr := ([4, 6, 7, 8, 9, 10, 11, 12, 13] : List Nat).filterMap (fun i => (wMd cy hM aM sdM M)[i]?)) (w1 := wMs cy hM aM sdM (M.1, dk_upA (dk_upA M.2 26 g104_0) 17 g104_1) ++ wRw cy (aM 17) 21 g104_1) hP hD [0, 1, 2, 3, 5] [4, 6, 7, 8, 9, 10, 11, 12, 13] rfl rfl (by decide) (by decide) hk1 hFc hP1 hD1
          generalize H1 = H at hP hS ⊢
          have hP : va_P D vwCl (wMd cy hM aM sdM (M.1, dk_upA (dk_upA M.2 26 g104_0) 17 g104_1)) H := hP.sub [9, 10, 11, 12, 0, 13, 1, 2, 3, 4, 5, 6, 7, 8] rfl
          have hD : va_D A (wMd cy hM aM sdM (M.1, dk_upA (dk_upA M.2 26 g104_0) 17 g104_1)) := hD.sub [9, 10, 11, 12, 0, 13, 1, 2, 3, 4, 5, 6, 7, 8] (by decide) rfl
          refine lv_pop hx hb dX6_does_107 rfl ?_
          refine lv_iconst (v := 1) hx hb dX6_does_108 (by decide) ?_
          have e := Option.some.inj hf
          simp only [Prod.mk.injEq] at e
          obtain ⟨e0, e1, e2⟩ := e
          subst e1
          subst e2
          exact W.zret (v := 1) hx hb hr rfl (fun t ht hW => ⟨⟨1, (), rfl, e0, by rw [ht]; exact hP, hD⟩, hS.F ht⟩) hS.2.2 dX6_does_109
        · refine lv_iconst (v := 0) hx hb dX6_does_97 (by decide) ?_
          have e := Option.some.inj hf
          simp only [Prod.mk.injEq] at e
          obtain ⟨e0, e1, e2⟩ := e
          subst e1
          subst e2
          exact W.zret (v := 0) hx hb hr rfl (fun t ht hW => ⟨⟨0, (), rfl, e0, by rw [ht]; exact hP, hD⟩, hS.F ht⟩) hS.2.2 dX6_does_98
  have hf := dk_neg hf q11_2
  by_cases q11_3 : v1 = 3
  · have hf := dk_pos hf q11_3
    refine lv_tableIn (tgt := 110) hx hb dX6_does_11 (by rw [q11_3]; decide) (by rw [q11_3]; decide) (by rw [q11_3]; rfl) (by decide) ?_
    refine lv_iload_n hx hb dX6_does_110 rfl (lv_at hl 3 rfl) ?_
    refine dk_ine (tgt := 129) hx hb dX6_does_111 (by decide) hf (fun hf => ?_) (fun hf => ?_)
    · refine lv_iconst (v := 0) hx hb dX6_does_129 (by decide) ?_
      have e := Option.some.inj hf
      simp only [Prod.mk.injEq] at e
      obtain ⟨e0, e1, e2⟩ := e
      subst e1
      subst e2
      exact W.zret (v := 0) hx hb hr rfl (fun t ht hW => ⟨⟨0, (), rfl, e0, by rw [ht]; exact hP, hD⟩, hS.F ht⟩) hS.2.2 dX6_does_130
    · refine lv_aload_n hx hb dX6_does_114 rfl (lv_at hl 1 rfl) ?_
      refine va_get (D := D) (ci := 6) (v := .ref (aM 17)) (C := RX6) (T := TX6) (N := 28) hx hb hts iX6_does_X6 hown hK.1 hP 0 rfl rfl 17 (by decide) (hts (.fieldLink RX6 32 "DarkPlaceModel" "trial" "[I") (List.mem_of_getElem? (i := 1) rfl)) (fun _ h9 => h9) rfl dX6_does_115 ?_
      obtain ⟨r118, k118, hf⟩ := dk_bind hf
      refine dk_ri (va_runS (As := [.ref (aM 17)]) (rest := []) ⟨hx, hb, hml, hown, hts⟩ (kX6_living l D cy (aM 17) (M.2 17) r118 k118) (va_cwS 1 hts gX6_does_X6_living rfl rfl rfl (by decide +kernel) ⟨Nat.le_of_ble_eq_true rfl, Nat.le_of_ble_eq_true rfl⟩) (dk_preS hK (hP.sub (ws' := wRw cy (aM 17) 21 (M.2 17)) [5] rfl)) rfl rfl hl.1 rfl (lv_room (Nat.le_of_ble_eq_true rfl)) dX6_does_118 ⟨Nat.zero_le _, Nat.zero_le _⟩) ?_
      refine lv_iload_n hx hb dX6_does_121 rfl (lv_at hl 4 rfl) ?_
      refine dk_cne (tgt := 129) hx hb dX6_does_122 (by decide) hf (fun hf => ?_) (fun hf => ?_)
      · refine lv_iconst (v := 0) hx hb dX6_does_129 (by decide) ?_
        have e := Option.some.inj hf
        simp only [Prod.mk.injEq] at e
        obtain ⟨e0, e1, e2⟩ := e
        subst e1
        subst e2
        exact W.zret (v := 0) hx hb hr rfl (fun t ht hW => ⟨⟨0, (), rfl, e0, by rw [ht]; exact hP, hD⟩, hS.F ht⟩) hS.2.2 dX6_does_130
      · refine lv_iconst (v := 1) hx hb dX6_does_125 (by decide) ?_
        refine lv_goto (tgt := 130) hx hb dX6_does_126 (by decide) ?_
        have e := Option.some.inj hf
        simp only [Prod.mk.injEq] at e
        obtain ⟨e0, e1, e2⟩ := e
        subst e1
        subst e2
        exact W.zret (v := 1) hx hb hr rfl (fun t ht hW => ⟨⟨1, (), rfl, e0, by rw [ht]; exact hP, hD⟩, hS.F ht⟩) hS.2.2 dX6_does_130
  have hf := dk_neg hf q11_3
  by_cases q11_4 : v1 = 4
  · have hf := dk_pos hf q11_4
    refine lv_tableIn (tgt := 131) hx hb dX6_does_11 (by rw [q11_4]; decide) (by rw [q11_4]; decide) (by rw [q11_4]; rfl) (by decide) ?_
    refine lv_iload_n hx hb dX6_does_131 rfl (lv_at hl 3 rfl) ?_
    refine dk_ine (tgt := 148) hx hb dX6_does_132 (by decide) hf (fun hf => ?_) (fun hf => ?_)
    · refine lv_iconst (v := 0) hx hb dX6_does_148 (by decide) ?_
      have e := Option.some.inj hf
      simp only [Prod.mk.injEq] at e
      obtain ⟨e0, e1, e2⟩ := e
      subst e1
      subst e2
      exact W.zret (v := 0) hx hb hr rfl (fun t ht hW => ⟨⟨0, (), rfl, e0, by rw [ht]; exact hP, hD⟩, hS.F ht⟩) hS.2.2 dX6_does_149
    · refine lv_iload hx hb dX6_does_135 (lv_at hl 0 rfl) ?_
      refine lv_iload_n hx hb dX6_does_137 rfl (lv_at hl 4 rfl) ?_
      obtain ⟨r138, k138, hf⟩ := dk_bind hf
      refine dk_ri (va_runS (As := [.int r5, .int v3]) (rest := []) ⟨hx, hb, hml, hown, hts⟩ (kX6_has l D cy r5 v3 r138 k138) (va_cwS 2 hts gX6_does_X6_has rfl rfl rfl (by decide +kernel) ⟨Nat.le_of_ble_eq_true rfl, Nat.le_of_ble_eq_true rfl⟩) (dk_preS hK (hP.sub (ws' := []) [] rfl)) rfl rfl hl.1 rfl (lv_room (Nat.le_of_ble_eq_true rfl)) dX6_does_138 ⟨Nat.zero_le _, Nat.zero_le _⟩) ?_
      refine dk_ieq (tgt := 148) hx hb dX6_does_141 (by decide) hf (fun hf => ?_) (fun hf => ?_)
      · refine lv_iconst (v := 0) hx hb dX6_does_148 (by decide) ?_
        have e := Option.some.inj hf
        simp only [Prod.mk.injEq] at e
        obtain ⟨e0, e1, e2⟩ := e
        subst e1
        subst e2
        exact W.zret (v := 0) hx hb hr rfl (fun t ht hW => ⟨⟨0, (), rfl, e0, by rw [ht]; exact hP, hD⟩, hS.F ht⟩) hS.2.2 dX6_does_149
      · refine lv_iconst (v := 1) hx hb dX6_does_144 (by decide) ?_
        refine lv_goto (tgt := 149) hx hb dX6_does_145 (by decide) ?_
        have e := Option.some.inj hf
        simp only [Prod.mk.injEq] at e
        obtain ⟨e0, e1, e2⟩ := e
        subst e1
        subst e2
        exact W.zret (v := 1) hx hb hr rfl (fun t ht hW => ⟨⟨1, (), rfl, e0, by rw [ht]; exact hP, hD⟩, hS.F ht⟩) hS.2.2 dX6_does_149
  have hf := dk_neg hf q11_4
  by_cases q11_5 : v1 = 5
  · have hf := dk_pos hf q11_5
    refine lv_tableIn (tgt := 150) hx hb dX6_does_11 (by rw [q11_5]; decide) (by rw [q11_5]; decide) (by rw [q11_5]; rfl) (by decide) ?_
    refine lv_iload_n hx hb dX6_does_150 rfl (lv_at hl 3 rfl) ?_
    refine lv_aload_n hx hb dX6_does_151 rfl (lv_at hl 1 rfl) ?_
    refine va_get (D := D) (ci := 6) (v := .ref (aM 17)) (C := RX6) (T := TX6) (N := 28) hx hb hts iX6_does_X6 hown hK.1 hP 0 rfl rfl 17 (by decide) (hts (.fieldLink RX6 32 "DarkPlaceModel" "trial" "[I") (List.mem_of_getElem? (i := 1) rfl)) (fun _ h9 => h9) rfl dX6_does_152 ?_
    refine lv_iconst (v := 1) hx hb dX6_does_155 (by decide) ?_
    refine dk_iald hx hb hK.1 hP 5 0 rfl rfl hf dX6_does_156 (fun d156 hf => ?_)
    refine dk_cge (tgt := 184) hx hb dX6_does_157 (by decide) hf (fun hf => ?_) (fun hf => ?_)
    · refine lv_iconst (v := 0) hx hb dX6_does_184 (by decide) ?_
      have e := Option.some.inj hf
      simp only [Prod.mk.injEq] at e
      obtain ⟨e0, e1, e2⟩ := e
      subst e1
      subst e2
      exact W.zret (v := 0) hx hb hr rfl (fun t ht hW => ⟨⟨0, (), rfl, e0, by rw [ht]; exact hP, hD⟩, hS.F ht⟩) hS.2.2 dX6_does_185
    · refine lv_aload_n hx hb dX6_does_160 rfl (lv_at hl 1 rfl) ?_
      refine lv_iload_n hx hb dX6_does_161 rfl (lv_at hl 4 rfl) ?_
      obtain ⟨r162, k162, hf⟩ := dk_bind hf
      refine dk_ri (va_runV (As := [.int v3]) (rest := []) ⟨hx, hb, hml, hown, hts⟩ (kX6_noPlace l D cy hM aM sdM M v3 r162 k162) (cwV 1 hts gX6_does_X6_noPlace rfl rfl rfl (by decide +kernel) ⟨Nat.le_of_ble_eq_true rfl, Nat.le_of_ble_eq_true rfl⟩) (dk_preV hK (hP.sub (ws' := wMs cy hM aM sdM M) [0, 1, 2, 3] rfl) (ci := 6) (q0 := 0) rfl rfl) rfl rfl hl.1 rfl (lv_room (Nat.le_of_ble_eq_true rfl)) dX6_does_162 ⟨Nat.zero_le _, Nat.zero_le _⟩) ?_
      refine dk_ine (tgt := 184) hx hb dX6_does_165 (by decide) hf (fun hf => ?_) (fun hf => ?_)
      · refine lv_iconst (v := 0) hx hb dX6_does_184 (by decide) ?_
        have e := Option.some.inj hf
        simp only [Prod.mk.injEq] at e
        obtain ⟨e0, e1, e2⟩ := e
        subst e1
        subst e2
        exact W.zret (v := 0) hx hb hr rfl (fun t ht hW => ⟨⟨0, (), rfl, e0, by rw [ht]; exact hP, hD⟩, hS.F ht⟩) hS.2.2 dX6_does_185
      · refine lv_aload_n hx hb dX6_does_168 rfl (lv_at hl 1 rfl) ?_
        refine va_get (D := D) (ci := 6) (v := .ref (aM 17)) (C := RX6) (T := TX6) (N := 28) hx hb hts iX6_does_X6 hown hK.1 hP 0 rfl rfl 17 (by decide) (hts (.fieldLink RX6 32 "DarkPlaceModel" "trial" "[I") (List.mem_of_getElem? (i := 1) rfl)) (fun _ h9 => h9) rfl dX6_does_169 ?_
        refine lv_iconst (v := 3) hx hb dX6_does_172 (by decide) ?_
        refine lv_iload_n hx hb dX6_does_173 rfl (lv_at hl 3 rfl) ?_
        refine lv_iadd hx hb dX6_does_174 ?_
        refine dk_iald hx hb hK.1 hP 5 0 rfl rfl hf dX6_does_175 (fun d175 hf => ?_)
        refine lv_iload_n hx hb dX6_does_176 rfl (lv_at hl 4 rfl) ?_
        refine dk_cne (tgt := 184) hx hb dX6_does_177 (by decide) hf (fun hf => ?_) (fun hf => ?_)
        · refine lv_iconst (v := 0) hx hb dX6_does_184 (by decide) ?_
          have e := Option.some.inj hf
          simp only [Prod.mk.injEq] at e
          obtain ⟨e0, e1, e2⟩ := e
          subst e1
          subst e2
          exact W.zret (v := 0) hx hb hr rfl (fun t ht hW => ⟨⟨0, (), rfl, e0, by rw [ht]; exact hP, hD⟩, hS.F ht⟩) hS.2.2 dX6_does_185
        · refine lv_iconst (v := 1) hx hb dX6_does_180 (by decide) ?_
          refine lv_goto (tgt := 185) hx hb dX6_does_181 (by decide) ?_
          have e := Option.some.inj hf
          simp only [Prod.mk.injEq] at e
          obtain ⟨e0, e1, e2⟩ := e
          subst e1
          subst e2
          exact W.zret (v := 1) hx hb hr rfl (fun t ht hW => ⟨⟨1, (), rfl, e0, by rw [ht]; exact hP, hD⟩, hS.F ht⟩) hS.2.2 dX6_does_185
  have hf := dk_neg hf q11_5
  by_cases q11_6 : v1 = 6
  · have hf := dk_pos hf q11_6
    refine lv_tableIn (tgt := 186) hx hb dX6_does_11 (by rw [q11_6]; decide) (by rw [q11_6]; decide) (by rw [q11_6]; rfl) (by decide) ?_
    refine lv_aload_n hx hb dX6_does_186 rfl (lv_at hl 1 rfl) ?_
    refine lv_iload_n hx hb dX6_does_187 rfl (lv_at hl 3 rfl) ?_
    obtain ⟨r188, k188, hf⟩ := dk_bind hf
    refine dk_ri (va_runV (As := [.int v2]) (rest := []) ⟨hx, hb, hml, hown, hts⟩ (kX6_noEdge l D cy hM aM sdM M v2 r188 k188) (cwV 1 hts gX6_does_X6_noEdge rfl rfl rfl (by decide +kernel) ⟨Nat.le_of_ble_eq_true rfl, Nat.le_of_ble_eq_true rfl⟩) (dk_preV hK (hP.sub (ws' := wMs cy hM aM sdM M) [0, 1, 2, 3] rfl) (ci := 6) (q0 := 0) rfl rfl) rfl rfl hl.1 rfl (lv_room (Nat.le_of_ble_eq_true rfl)) dX6_does_188 ⟨Nat.zero_le _, Nat.zero_le _⟩) ?_
    refine dk_ine (tgt := 211) hx hb dX6_does_191 (by decide) hf (fun hf => ?_) (fun hf => ?_)
    · refine lv_iconst (v := 0) hx hb dX6_does_211 (by decide) ?_
      have e := Option.some.inj hf
      simp only [Prod.mk.injEq] at e
      obtain ⟨e0, e1, e2⟩ := e
      subst e1
      subst e2
      exact W.zret (v := 0) hx hb hr rfl (fun t ht hW => ⟨⟨0, (), rfl, e0, by rw [ht]; exact hP, hD⟩, hS.F ht⟩) hS.2.2 dX6_does_212
    · refine lv_aload_n hx hb dX6_does_194 rfl (lv_at hl 1 rfl) ?_
      refine va_get (D := D) (ci := 6) (v := .ref (aM 17)) (C := RX6) (T := TX6) (N := 28) hx hb hts iX6_does_X6 hown hK.1 hP 0 rfl rfl 17 (by decide) (hts (.fieldLink RX6 32 "DarkPlaceModel" "trial" "[I") (List.mem_of_getElem? (i := 1) rfl)) (fun _ h9 => h9) rfl dX6_does_195 ?_
      refine lv_bipush (v := 11) hx hb dX6_does_198 (by decide) ?_
      refine lv_iload_n hx hb dX6_does_200 rfl (lv_at hl 3 rfl) ?_
      refine lv_iadd hx hb dX6_does_201 ?_
      refine dk_iald hx hb hK.1 hP 5 0 rfl rfl hf dX6_does_202 (fun d202 hf => ?_)
      refine lv_iload_n hx hb dX6_does_203 rfl (lv_at hl 4 rfl) ?_
      refine dk_cne (tgt := 211) hx hb dX6_does_204 (by decide) hf (fun hf => ?_) (fun hf => ?_)
      · refine lv_iconst (v := 0) hx hb dX6_does_211 (by decide) ?_
        have e := Option.some.inj hf
        simp only [Prod.mk.injEq] at e
        obtain ⟨e0, e1, e2⟩ := e
        subst e1
        subst e2
        exact W.zret (v := 0) hx hb hr rfl (fun t ht hW => ⟨⟨0, (), rfl, e0, by rw [ht]; exact hP, hD⟩, hS.F ht⟩) hS.2.2 dX6_does_212
      · refine lv_iconst (v := 1) hx hb dX6_does_207 (by decide) ?_
        refine lv_goto (tgt := 212) hx hb dX6_does_208 (by decide) ?_
        have e := Option.some.inj hf
        simp only [Prod.mk.injEq] at e
        obtain ⟨e0, e1, e2⟩ := e
        subst e1
        subst e2
        exact W.zret (v := 1) hx hb hr rfl (fun t ht hW => ⟨⟨1, (), rfl, e0, by rw [ht]; exact hP, hD⟩, hS.F ht⟩) hS.2.2 dX6_does_212
  have hf := dk_neg hf q11_6
  by_cases q11_7 : v1 = 7
  · have hf := dk_pos hf q11_7
    refine lv_tableIn (tgt := 213) hx hb dX6_does_11 (by rw [q11_7]; decide) (by rw [q11_7]; decide) (by rw [q11_7]; rfl) (by decide) ?_
    refine lv_iload_n hx hb dX6_does_213 rfl (lv_at hl 3 rfl) ?_
    refine dk_ine (tgt := 237) hx hb dX6_does_214 (by decide) hf (fun hf => ?_) (fun hf => ?_)
    · refine lv_iconst (v := 0) hx hb dX6_does_237 (by decide) ?_
      have e := Option.some.inj hf
      simp only [Prod.mk.injEq] at e
      obtain ⟨e0, e1, e2⟩ := e
      subst e1
      subst e2
      exact W.zret (v := 0) hx hb hr rfl (fun t ht hW => ⟨⟨0, (), rfl, e0, by rw [ht]; exact hP, hD⟩, hS.F ht⟩) hS.2.2 dX6_does_238
    · refine lv_aload_n hx hb dX6_does_217 rfl (lv_at hl 1 rfl) ?_
      refine lv_iload_n hx hb dX6_does_218 rfl (lv_at hl 4 rfl) ?_
      obtain ⟨r219, k219, hf⟩ := dk_bind hf
      refine dk_ri (va_runV (As := [.int v3]) (rest := []) ⟨hx, hb, hml, hown, hts⟩ (kX6_noPlace l D cy hM aM sdM M v3 r219 k219) (cwV 1 hts gX6_does_X6_noPlace rfl rfl rfl (by decide +kernel) ⟨Nat.le_of_ble_eq_true rfl, Nat.le_of_ble_eq_true rfl⟩) (dk_preV hK (hP.sub (ws' := wMs cy hM aM sdM M) [0, 1, 2, 3] rfl) (ci := 6) (q0 := 0) rfl rfl) rfl rfl hl.1 rfl (lv_room (Nat.le_of_ble_eq_true rfl)) dX6_does_219 ⟨Nat.zero_le _, Nat.zero_le _⟩) ?_
      refine dk_ine (tgt := 237) hx hb dX6_does_222 (by decide) hf (fun hf => ?_) (fun hf => ?_)
      · refine lv_iconst (v := 0) hx hb dX6_does_237 (by decide) ?_
        have e := Option.some.inj hf
        simp only [Prod.mk.injEq] at e
        obtain ⟨e0, e1, e2⟩ := e
        subst e1
        subst e2
        exact W.zret (v := 0) hx hb hr rfl (fun t ht hW => ⟨⟨0, (), rfl, e0, by rw [ht]; exact hP, hD⟩, hS.F ht⟩) hS.2.2 dX6_does_238
      · refine lv_iload hx hb dX6_does_225 (lv_at hl 0 rfl) ?_
        refine lv_iconst (v := 1) hx hb dX6_does_227 (by decide) ?_
        refine lv_iload_n hx hb dX6_does_228 rfl (lv_at hl 4 rfl) ?_
        refine lv_ishl hx hb dX6_does_229 ?_
        refine dk_cne (tgt := 237) hx hb dX6_does_230 (by decide) hf (fun hf => ?_) (fun hf => ?_)
        · refine lv_iconst (v := 0) hx hb dX6_does_237 (by decide) ?_
          have e := Option.some.inj hf
          simp only [Prod.mk.injEq] at e
          obtain ⟨e0, e1, e2⟩ := e
          subst e1
          subst e2
          exact W.zret (v := 0) hx hb hr rfl (fun t ht hW => ⟨⟨0, (), rfl, e0, by rw [ht]; exact hP, hD⟩, hS.F ht⟩) hS.2.2 dX6_does_238
        · refine lv_iconst (v := 1) hx hb dX6_does_233 (by decide) ?_
          refine lv_goto (tgt := 238) hx hb dX6_does_234 (by decide) ?_
          have e := Option.some.inj hf
          simp only [Prod.mk.injEq] at e
          obtain ⟨e0, e1, e2⟩ := e
          subst e1
          subst e2
          exact W.zret (v := 1) hx hb hr rfl (fun t ht hW => ⟨⟨1, (), rfl, e0, by rw [ht]; exact hP, hD⟩, hS.F ht⟩) hS.2.2 dX6_does_238
  have hf := dk_neg hf q11_7
  refine lv_tableOut (tgt := 239) hx hb dX6_does_11 (dk_tabOut 1 7 (by decide) (fun k h1 h2 => by
    rcases (show k = 1 ∨ k = 2 ∨ k = 3 ∨ k = 4 ∨ k = 5 ∨ k = 6 ∨ k = 7 by omega) with rfl | rfl | rfl | rfl | rfl | rfl | rfl
    · exact q11_1
    · exact q11_2
    · exact q11_3
    · exact q11_4
    · exact q11_5
    · exact q11_6
    · exact q11_7)) (by decide) ?_
  refine lv_iconst (v := 0) hx hb dX6_does_239 (by decide) ?_
  have e := Option.some.inj hf
  simp only [Prod.mk.injEq] at e
  obtain ⟨e0, e1, e2⟩ := e
  subst e1
  subst e2
  exact W.zret (v := 0) hx hb hr rfl (fun t ht hW => ⟨⟨0, (), rfl, e0, by rw [ht]; exact hP, hD⟩, hS.F ht⟩) hS.2.2 dX6_does_240
set_option maxHeartbeats 4000000 in
set_option maxRecDepth 100000 in
theorem kX6_longPower (l : Launch) (D : va_G) (cy : Nat → ClassId)   (v0 : Int64) (v2 : Int32) (r : Int64) (hf : fX6_longPower v0 v2 = some r) : dk_RdL l yX6_longPower wsX6_longPower ({ frames := 0, cells := 0, slots := 0, locals := 0 }) D cy [.long v0, .int v2] (([] : va_W)) r := by
  refine Met.ofW (cc := cX6_longPower) (maxL := 6) (ret := (some .long)) (by decide) rfl ?_
  intro p e s m args below meth c s₁ B hml hv
  obtain ⟨rfl, hP, hK⟩ := hv
  have hx := B.exec
  have hb := B.bytes
  have hr := B.returns
  have hts := atoms_spec (ws := wsX6_longPower) B.pre
  have hown : s.vm.findClass RX6 = some m.cls := findClass_of_methodNamed B.named
  have hlocks := B.notSynchronized
  have hl := lv_entry ([.long v0, .int v2]) (n := 6) (Nat.le_of_ble_eq_true rfl)
  rw [lg_entry_eq]
  generalize (lg_sl ([.long v0, .int v2]) ++ List.replicate (6 - (lg_sl ([.long v0, .int v2])).length) Slot.unset).toArray = ls at hl ⊢
  have hl : lv_has ls 6 [(0, .long v0), (2, .int v2)] := hl
  have L5 : ∀ (fu5 : Nat) (x0 : Int64) (x2 : Int32) (x3 : Int64) (x5 : Int32) (ls : Array Slot), lv_has ls 6 [(0, .long x0), (2, .int x2), (3, .long x3), (5, .int x5)] → fX6_longPower_L5 fu5 x0 x2 x3 x5 = some r → W p l e (headSpec wsX6_longPower ({ frames := 0, cells := 0, slots := 0, locals := 0 })).room s m ([.long v0, .int v2]).toArray below meth c s.heap [] 0 0 (MQ below (vp_Sl (fun x => x = r)) ([.long v0, .int v2]).toArray s 0 0 (fun _ => False)) (F0 m 5 ls []) := by
    intro fu5
    induction fu5 with
    | zero =>
      intro x0 x2 x3 x5 ls hl hf
      rw [fX6_longPower_L5] at hf
      cases hf
    | succ fu5 ih5 =>
      intro x0 x2 x3 x5 ls hl hf
      rw [fX6_longPower_L5] at hf
      refine lv_iload hx hb dX6_longPower_5 (lv_at hl 3 rfl) ?_
      refine lv_iload_n hx hb dX6_longPower_7 rfl (lv_at hl 1 rfl) ?_
      refine dk_cge (tgt := 21) hx hb dX6_longPower_8 (by decide) hf (fun hf => ?_) (fun hf => ?_)
      · refine lv_lload_n hx hb dX6_longPower_21 rfl (lv_at hl 2 rfl) ?_
        exact W.lret (v := x3) hx hb hr (fun t ht hW => ⟨x3, rfl, Option.some.inj hf, ht⟩) t_nil dX6_longPower_22
      · refine lv_lload_n hx hb dX6_longPower_11 rfl (lv_at hl 2 rfl) ?_
        refine lv_lload_n hx hb dX6_longPower_12 rfl (lv_at hl 0 rfl) ?_
        refine lv_lmul hx hb dX6_longPower_13 ?_
        refine lv_lstore_n (lv' := [(3, .long (x3 * x0)), (0, .long x0), (2, .int x2), (5, .int x5)]) hx hb dX6_longPower_14 rfl hl (by decide) rfl (fun ls hl => ?_)
        refine lv_iinc (v := x5 + 1) (lv' := [(5, .int (x5 + 1)), (3, .long (x3 * x0)), (0, .long x0), (2, .int x2)]) hx hb dX6_longPower_15 hl (k := 3) rfl rfl (by decide) rfl (fun ls hl => ?_)
        refine lv_goto (tgt := 5) hx hb dX6_longPower_18 (by decide) ?_
        exact ih5 x0 x2 (x3 * x0) (x5 + 1) _ (lv_sub hl [2, 3, 1, 0] rfl) hf
  unfold fX6_longPower at hf
  refine lv_lconst (v := 1) hx hb dX6_longPower_0 (by decide) ?_
  refine lv_lstore_n (lv' := [(3, .long 1), (0, .long v0), (2, .int v2)]) hx hb dX6_longPower_1 rfl hl (by decide) rfl (fun ls hl => ?_)
  refine lv_iconst (v := 0) hx hb dX6_longPower_2 (by decide) ?_
  refine lv_istore (lv' := [(5, .int 0), (3, .long 1), (0, .long v0), (2, .int v2)]) hx hb dX6_longPower_3 hl (by decide) rfl (fun ls hl => ?_)
  exact L5 1000 v0 v2 1 0 _ (lv_sub hl [2, 3, 1, 0] rfl) hf
