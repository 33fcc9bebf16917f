-- printed by wip/gen (walks of the bytecode)
theorem iX5_keep_X3 : ∀ w ∈ wsX30, w ∈ wsX5_keep := fun _ h => List.mem_cons_of_mem _ (List.mem_append_right _ h)
theorem iX5_keep_X5 : ∀ w ∈ wsX50, w ∈ wsX5_keep := fun _ h => List.mem_cons_of_mem _ (List.mem_append_left _ (List.mem_append_right _ h))
set_option maxHeartbeats 4000000 in
set_option maxRecDepth 100000 in
theorem kX5_keep (l : Launch) (D : va_G) (cy : Nat → ClassId) (hQ : Nat) (aQ : Nat → Nat) (sdQ : Int64) (aT : Nat → Nat) (sS : Nat → Nat) (aS : Nat → Nat → Nat) (sz : Nat) (Q : dk_O) (T : dk_O) (SB : Nat → dk_O) (v1 : Int32) (r : Int32) (oQ_7 : (Nat → Int32)) (oS_B : (Nat → dk_O)) (hf : fX5_keep Q T SB v1 = some (r, oQ_7, oS_B)) : dk_MuI l yX5_keep wsX5_keep ({ frames := 1, cells := 0, slots := 0, locals := 22 }) D cy [.ref hQ, .int v1] (wDp cy hQ aQ sdQ Q ++ wSt cy (aQ 3) aT (aQ 1) T ++ wSl cy (aQ 6) sS aS (aQ 1) SB) (wDp cy hQ aQ sdQ (Q.1, dk_upA Q.2 7 oQ_7) ++ wSt cy (aQ 3) aT (aQ 1) T ++ wSl cy (aQ 6) sS aS (aQ 1) oS_B) sz r := by
  refine Met.ofW (cc := cX5_keep) (maxL := 2) (ret := (some .int)) (by decide) rfl ?_
  intro p e s m args below meth c s₁ B hml hv
  obtain ⟨rfl, hsz, hP, hK, hD0⟩ := hv
  have hx := B.exec
  have hb := B.bytes
  have hr := B.returns
  have hts := atoms_spec (ws := wsX5_keep) B.pre
  have hown : s.vm.findClass RX5 = some m.cls := findClass_of_methodNamed B.named
  have hlocks := B.notSynchronized
  subst hsz
  have hD := hD0.self (sz := s.heap.size)
  generalize hAe : va_A (wDp cy hQ aQ sdQ Q ++ wSt cy (aQ 3) aT (aQ 1) T ++ wSl cy (aQ 6) sS aS (aQ 1) SB) s.heap.size = A at hD ⊢
  have hA : ∀ q : Nat, s.heap.size ≤ q → A q := fun q h => by rw [← hAe]; exact Or.inr h
  have hS : va_S A s.heap s.heap [] := va_S.rf
  have hl := lv_entry ([.ref hQ, .int v1]) (n := 2) (Nat.le_of_ble_eq_true rfl)
  rw [lg_entry_eq]
  generalize (lg_sl ([.ref hQ, .int v1]) ++ List.replicate (2 - (lg_sl ([.ref hQ, .int v1])).length) Slot.unset).toArray = ls at hl ⊢
  have hl : lv_has ls 2 [(0, .ref hQ), (1, .int v1)] := hl
  unfold fX5_keep at hf
  refine lv_iload_n hx hb dX5_keep_0 rfl (lv_at hl 1 rfl) ?_
  refine dk_ilt (tgt := 9) hx hb dX5_keep_1 (by decide) hf (fun hf => ?_) (fun hf => ?_)
  · refine lv_iconst (v := (-1)) hx hb dX5_keep_9 (by decide) ?_
    have e := Option.some.inj hf
    simp only [Prod.mk.injEq] at e
    obtain ⟨e0, e1, e2⟩ := e
    subst e1
    subst e2
    exact W.iret (v := (-1)) hx hb hr (fun t ht hW => ⟨⟨(-1), (), rfl, e0, by rw [ht]; exact hP, hD⟩, hS.F ht⟩) hS.2.2 dX5_keep_10
  · refine lv_iload_n hx hb dX5_keep_4 rfl (lv_at hl 1 rfl) ?_
    refine lv_iconst (v := 2) hx hb dX5_keep_5 (by decide) ?_
    refine dk_clt (tgt := 11) hx hb dX5_keep_6 (by decide) hf (fun hf => ?_) (fun hf => ?_)
    · refine lv_aload_n hx hb dX5_keep_11 rfl (lv_at hl 0 rfl) ?_
      refine va_get (D := D) (ci := 5) (v := .ref (aQ 6)) (C := RX5) (T := TX5) (N := 10) hx hb hts iX5_keep_X5 hown hK.1 hP 0 rfl rfl 6 (by decide) (hts (.fieldLink RX5 45 "DarkPlace" "slots" "[LDarkPlace$Stand;") (List.mem_of_getElem? (i := 1) rfl)) (fun _ h9 => h9) rfl dX5_keep_12 ?_
      refine lv_iload_n hx hb dX5_keep_15 rfl (lv_at hl 1 rfl) ?_
      by_cases q16_0 : v1 = 0
      · have hf := dk_pos hf q16_0
        refine dk_aald hx hb hK.1 hP 5 2 rfl rfl 0 q16_0 (by decide) dX5_keep_16 ?_
        refine lv_aload_n hx hb dX5_keep_17 rfl (lv_at hl 0 rfl) ?_
        refine va_get (D := D) (ci := 5) (v := .ref (aQ 3)) (C := RX5) (T := TX5) (N := 10) hx hb hts iX5_keep_X5 hown hK.1 hP 0 rfl rfl 3 (by decide) (hts (.fieldLink RX5 31 "DarkPlace" "now" "LDarkPlace$Stand;") (List.mem_of_getElem? (i := 2) rfl)) (fun _ h9 => h9) rfl dX5_keep_18 ?_
        obtain ⟨⟨i21_0, g21_1, g21_2⟩, k21, hf⟩ := dk_bind hf
        dsimp only at hf
        have hPc := hP.sub (ws' := wSt cy (sS 0) (aS 0) (aQ 1) (SB 0) ++ wSt cy (aQ 3) aT (aQ 1) T) [6, 7, 8, 2, 3, 4] rfl
        have hDc := hD.sub (ws' := wSt cy (sS 0) (aS 0) (aQ 1) (SB 0) ++ wSt cy (aQ 3) aT (aQ 1) T) [6, 7, 8, 2, 3, 4] (by decide) rfl
        have hFc := va_free (wc := wSt cy (sS 0) (aS 0) (aQ 1) (SB 0) ++ wSt cy (aQ 3) aT (aQ 1) T) hD hS hA [6, 7, 8, 2, 3, 4] rfl
        refine va_callv (va_runV (As := [.ref (aQ 3)]) (rest := []) ⟨hx, hb, hml, hown, hts⟩ (kX3_become l D cy (sS 0) (aS 0) (aQ 1) (aQ 3) aT (aQ 1) s.heap.size (SB 0) T i21_0 g21_1 g21_2 k21) (cwV 1 hts gX5_keep_X3_become rfl rfl rfl (by decide +kernel) ⟨Nat.le_of_ble_eq_true rfl, Nat.le_of_ble_eq_true rfl⟩) (dk_premV hK hPc hDc (ci := 3) (q0 := 0) rfl rfl) rfl rfl hl.1 rfl (lv_room (Nat.le_of_ble_eq_true rfl)) dX5_keep_21 ⟨Nat.zero_le _, Nat.zero_le _⟩) hS (fun q _ h => hFc q h) hFc (fun u t H1 locs ht hvm hw hB hz1 hk1 hS => ?_)
        obtain ⟨hP1, hD1⟩ := hB
        rw [ht] at hP1
        obtain ⟨hP, hD⟩ := va_join (wr := ([0, 1, 5, 9, 10, 11] : List Nat).filterMap (fun i => (wDp cy hQ aQ sdQ Q ++ wSt cy (aQ 3) aT (aQ 1) T ++ wSl cy (aQ 6) sS aS (aQ 1) SB)[i]?)) (w1 := wSt cy (sS 0) (aS 0) (aQ 1) ((dk_upB SB 0 (i21_0, dk_upA (dk_upA ((SB 0).2) 1 g21_1) 2 g21_2)) 0) ++ wSt cy (aQ 3) aT (aQ 1) T) hP hD [6, 7, 8, 2, 3, 4] [0, 1, 5, 9, 10, 11] rfl rfl (by decide) (by decide) hk1 hFc hP1 hD1
        generalize H1 = H at hP hS ⊢
        have hP : va_P D vwCl (wDp cy hQ aQ sdQ Q ++ wSt cy (aQ 3) aT (aQ 1) T ++ wSl cy (aQ 6) sS aS (aQ 1) (dk_upB SB 0 (i21_0, dk_upA (dk_upA ((SB 0).2) 1 g21_1) 2 g21_2))) H := hP.sub [0, 1, 9, 10, 11, 2, 6, 7, 8, 3, 4, 5] rfl
        have hD : va_D A (wDp cy hQ aQ sdQ Q ++ wSt cy (aQ 3) aT (aQ 1) T ++ wSl cy (aQ 6) sS aS (aQ 1) (dk_upB SB 0 (i21_0, dk_upA (dk_upA ((SB 0).2) 1 g21_1) 2 g21_2))) := hD.sub [0, 1, 9, 10, 11, 2, 6, 7, 8, 3, 4, 5] (by decide) rfl
        refine lv_aload_n hx hb dX5_keep_24 rfl (lv_at hl 0 rfl) ?_
        refine va_get (D := D) (ci := 5) (v := .ref (aQ 7)) (C := RX5) (T := TX5) (N := 10) hx hb hts iX5_keep_X5 hown hK.1 hP 0 rfl rfl 7 (by decide) (hts (.fieldLink RX5 49 "DarkPlace" "filled" "[Z") (List.mem_of_getElem? (i := 3) rfl)) (fun _ h9 => h9) rfl dX5_keep_25 ?_
        refine lv_iload_n hx hb dX5_keep_28 rfl (lv_at hl 1 rfl) ?_
        refine lv_iconst (v := 1) hx hb dX5_keep_29 (by decide) ?_
        refine dk_zast hx hb hK.1 hP hD hS 1 1 rfl rfl (by decide) hf dX5_keep_30 (fun f30 H locs hP hD hS hf => ?_)
        have hP : va_P D vwCl (wDp cy hQ aQ sdQ (Q.1, dk_upA Q.2 7 f30) ++ wSt cy (aQ 3) aT (aQ 1) T ++ wSl cy (aQ 6) sS aS (aQ 1) (dk_upB SB 0 (i21_0, dk_upA (dk_upA ((SB 0).2) 1 g21_1) 2 g21_2))) H := hP
        have hD : va_D A (wDp cy hQ aQ sdQ (Q.1, dk_upA Q.2 7 f30) ++ wSt cy (aQ 3) aT (aQ 1) T ++ wSl cy (aQ 6) sS aS (aQ 1) (dk_upB SB 0 (i21_0, dk_upA (dk_upA ((SB 0).2) 1 g21_1) 2 g21_2))) := hD
        refine lv_aload_n hx hb dX5_keep_31 rfl (lv_at hl 0 rfl) ?_
        refine va_get (D := D) (ci := 5) (v := .ref (aQ 3)) (C := RX5) (T := TX5) (N := 10) hx hb hts iX5_keep_X5 hown hK.1 hP 0 rfl rfl 3 (by decide) (hts (.fieldLink RX5 31 "DarkPlace" "now" "LDarkPlace$Stand;") (List.mem_of_getElem? (i := 2) rfl)) (fun _ h9 => h9) rfl dX5_keep_32 ?_
        refine va_getN (D := D) (ci := 3) (v := .int (T.1 5)) (C := RX3) (T := TX3) (N := 9) hx hb hts iX5_keep_X3 hown hK.1 hP 2 rfl rfl 5 (by decide) (va_Nw.use rfl (hK.2 (.fieldLinkNest "DarkPlace" 168 "DarkPlace$Stand" "moves" "I" "DarkPlace") (List.mem_of_getElem? (i := 12) rfl))) (fun _ h9 => h9) rfl dX5_keep_35 ?_
        have e := Option.some.inj hf
        simp only [Prod.mk.injEq] at e
        obtain ⟨e0, e1, e2⟩ := e
        subst e1
        subst e2
        exact W.iret (v := T.1 5) hx hb hr (fun t ht hW => ⟨⟨T.1 5, (), rfl, e0, by rw [ht]; exact hP, hD⟩, hS.F ht⟩) hS.2.2 dX5_keep_38
      have hf := dk_neg hf q16_0
      by_cases q16_1 : v1 = 1
      · have hf := dk_pos hf q16_1
        refine dk_aald hx hb hK.1 hP 5 2 rfl rfl 1 q16_1 (by decide) dX5_keep_16 ?_
        refine lv_aload_n hx hb dX5_keep_17 rfl (lv_at hl 0 rfl) ?_
        refine va_get (D := D) (ci := 5) (v := .ref (aQ 3)) (C := RX5) (T := TX5) (N := 10) hx hb hts iX5_keep_X5 hown hK.1 hP 0 rfl rfl 3 (by decide) (hts (.fieldLink RX5 31 "DarkPlace" "now" "LDarkPlace$Stand;") (List.mem_of_getElem? (i := 2) rfl)) (fun _ h9 => h9) rfl dX5_keep_18 ?_
        obtain ⟨⟨i21_0, g21_1, g21_2⟩, k21, hf⟩ := dk_bind hf
        dsimp only at hf
        have hPc := hP.sub (ws' := wSt cy (sS 1) (aS 1) (aQ 1) (SB 1) ++ wSt cy (aQ 3) aT (aQ 1) T) [9, 10, 11, 2, 3, 4] rfl
        have hDc := hD.sub (ws' := wSt cy (sS 1) (aS 1) (aQ 1) (SB 1) ++ wSt cy (aQ 3) aT (aQ 1) T) [9, 10, 11, 2, 3, 4] (by decide) rfl
        have hFc := va_free (wc := wSt cy (sS 1) (aS 1) (aQ 1) (SB 1) ++ wSt cy (aQ 3) aT (aQ 1) T) hD hS hA [9, 10, 11, 2, 3, 4] rfl
        refine va_callv (va_runV (As := [.ref (aQ 3)]) (rest := []) ⟨hx, hb, hml, hown, hts⟩ (kX3_become l D cy (sS 1) (aS 1) (aQ 1) (aQ 3) aT (aQ 1) s.heap.size (SB 1) T i21_0 g21_1 g21_2 k21) (cwV 1 hts gX5_keep_X3_become rfl rfl rfl (by decide +kernel) ⟨Nat.le_of_ble_eq_true rfl, Nat.le_of_ble_eq_true rfl⟩) (dk_premV hK hPc hDc (ci := 3) (q0 := 0) rfl rfl) rfl rfl hl.1 rfl (lv_room (Nat.le_of_ble_eq_true rfl)) dX5_keep_21 ⟨Nat.zero_le _, Nat.zero_le _⟩) hS (fun q _ h => hFc q h) hFc (fun u t H1 locs ht hvm hw hB hz1 hk1 hS => ?_)
        obtain ⟨hP1, hD1⟩ := hB
        rw [ht] at hP1
        obtain ⟨hP, hD⟩ := va_join (wr := ([0, 1, 5, 6, 7, 8] : List Nat).filterMap (fun i => (wDp cy hQ aQ sdQ Q ++ wSt cy (aQ 3) aT (aQ 1) T ++ wSl cy (aQ 6) sS aS (aQ 1) SB)[i]?)) (w1 := wSt cy (sS 1) (aS 1) (aQ 1) ((dk_upB SB 1 (i21_0, dk_upA (dk_upA ((SB 1).2) 1 g21_1) 2 g21_2)) 1) ++ wSt cy (aQ 3) aT (aQ 1) T) hP hD [9, 10, 11, 2, 3, 4] [0, 1, 5, 6, 7, 8] rfl rfl (by decide) (by decide) hk1 hFc hP1 hD1
        generalize H1 = H at hP hS ⊢
        have hP : va_P D vwCl (wDp cy hQ aQ sdQ Q ++ wSt cy (aQ 3) aT (aQ 1) T ++ wSl cy (aQ 6) sS aS (aQ 1) (dk_upB SB 1 (i21_0, dk_upA (dk_upA ((SB 1).2) 1 g21_1) 2 g21_2))) H := hP.sub [0, 1, 9, 10, 11, 2, 3, 4, 5, 6, 7, 8] rfl
        have hD : va_D A (wDp cy hQ aQ sdQ Q ++ wSt cy (aQ 3) aT (aQ 1) T ++ wSl cy (aQ 6) sS aS (aQ 1) (dk_upB SB 1 (i21_0, dk_upA (dk_upA ((SB 1).2) 1 g21_1) 2 g21_2))) := hD.sub [0, 1, 9, 10, 11, 2, 3, 4, 5, 6, 7, 8] (by decide) rfl
        refine lv_aload_n hx hb dX5_keep_24 rfl (lv_at hl 0 rfl) ?_
        refine va_get (D := D) (ci := 5) (v := .ref (aQ 7)) (C := RX5) (T := TX5) (N := 10) hx hb hts iX5_keep_X5 hown hK.1 hP 0 rfl rfl 7 (by decide) (hts (.fieldLink RX5 49 "DarkPlace" "filled" "[Z") (List.mem_of_getElem? (i := 3) rfl)) (fun _ h9 => h9) rfl dX5_keep_25 ?_
        refine lv_iload_n hx hb dX5_keep_28 rfl (lv_at hl 1 rfl) ?_
        refine lv_iconst (v := 1) hx hb dX5_keep_29 (by decide) ?_
        refine dk_zast hx hb hK.1 hP hD hS 1 1 rfl rfl (by decide) hf dX5_keep_30 (fun f30 H locs hP hD hS hf => ?_)
        have hP : va_P D vwCl (wDp cy hQ aQ sdQ (Q.1, dk_upA Q.2 7 f30) ++ wSt cy (aQ 3) aT (aQ 1) T ++ wSl cy (aQ 6) sS aS (aQ 1) (dk_upB SB 1 (i21_0, dk_upA (dk_upA ((SB 1).2) 1 g21_1) 2 g21_2))) H := hP
        have hD : va_D A (wDp cy hQ aQ sdQ (Q.1, dk_upA Q.2 7 f30) ++ wSt cy (aQ 3) aT (aQ 1) T ++ wSl cy (aQ 6) sS aS (aQ 1) (dk_upB SB 1 (i21_0, dk_upA (dk_upA ((SB 1).2) 1 g21_1) 2 g21_2))) := hD
        refine lv_aload_n hx hb dX5_keep_31 rfl (lv_at hl 0 rfl) ?_
        refine va_get (D := D) (ci := 5) (v := .ref (aQ 3)) (C := RX5) (T := TX5) (N := 10) hx hb hts iX5_keep_X5 hown hK.1 hP 0 rfl rfl 3 (by decide) (hts (.fieldLink RX5 31 "DarkPlace" "now" "LDarkPlace$Stand;") (List.mem_of_getElem? (i := 2) rfl)) (fun _ h9 => h9) rfl dX5_keep_32 ?_
        refine va_getN (D := D) (ci := 3) (v := .int (T.1 5)) (C := RX3) (T := TX3) (N := 9) hx hb hts iX5_keep_X3 hown hK.1 hP 2 rfl rfl 5 (by decide) (va_Nw.use rfl (hK.2 (.fieldLinkNest "DarkPlace" 168 "DarkPlace$Stand" "moves" "I" "DarkPlace") (List.mem_of_getElem? (i := 12) rfl))) (fun _ h9 => h9) rfl dX5_keep_35 ?_
        have e := Option.some.inj hf
        simp only [Prod.mk.injEq] at e
        obtain ⟨e0, e1, e2⟩ := e
        subst e1
        subst e2
        exact W.iret (v := T.1 5) hx hb hr (fun t ht hW => ⟨⟨T.1 5, (), rfl, e0, by rw [ht]; exact hP, hD⟩, hS.F ht⟩) hS.2.2 dX5_keep_38
      have hf := dk_neg hf q16_1
      cases hf
    · refine lv_iconst (v := (-1)) hx hb dX5_keep_9 (by decide) ?_
      have e := Option.some.inj hf
      simp only [Prod.mk.injEq] at e
      obtain ⟨e0, e1, e2⟩ := e
      subst e1
      subst e2
      exact W.iret (v := (-1)) hx hb hr (fun t ht hW => ⟨⟨(-1), (), rfl, e0, by rw [ht]; exact hP, hD⟩, hS.F ht⟩) hS.2.2 dX5_keep_10
theorem iX5_again_X3 : ∀ w ∈ wsX30, w ∈ wsX5_again := fun _ h => List.mem_cons_of_mem _ (List.mem_append_left _ (List.mem_append_right _ h))
theorem iX5_again_X5 : ∀ w ∈ wsX50, w ∈ wsX5_again := fun _ h => List.mem_cons_of_mem _ (List.mem_append_left _ (List.mem_append_left _ (List.mem_append_right _ h)))
set_option maxHeartbeats 4000000 in
set_option maxRecDepth 100000 in
theorem kX5_again (l : Launch) (D : va_G) (cy : Nat → ClassId) (hQ : Nat) (aQ : Nat → Nat) (sdQ : Int64) (aT : Nat → Nat) (sS : Nat → Nat) (aS : Nat → Nat → Nat) (bC : Nat) (sz : Nat) (Q : dk_O) (T : dk_O) (SB : Nat → dk_O) (C : dk_O) (v1 : Int32) (r : Int32) (oT_I : (Nat → Int32)) (oT_1 : (Nat → Int32)) (oT_2 : (Nat → Int32)) (oC_I : (Nat → Int32)) (hf : fX5_again Q T SB C v1 = some (r, oT_I, oT_1, oT_2, oC_I)) : dk_MuI l yX5_again wsX5_again ({ frames := 1, cells := 0, slots := 0, locals := 22 }) D cy [.ref hQ, .int v1] (wDp cy hQ aQ sdQ Q ++ wSt cy (aQ 3) aT (aQ 1) T ++ wSl cy (aQ 6) sS aS (aQ 1) SB ++ wAo (aQ 5) bC C) (wDp cy hQ aQ sdQ Q ++ wSt cy (aQ 3) aT (aQ 1) (oT_I, dk_upA (dk_upA T.2 1 oT_1) 2 oT_2) ++ wSl cy (aQ 6) sS aS (aQ 1) SB ++ wAo (aQ 5) bC (oC_I, C.2)) sz r := by
  refine Met.ofW (cc := cX5_again) (maxL := 2) (ret := (some .int)) (by decide) rfl ?_
  intro p e s m args below meth c s₁ B hml hv
  obtain ⟨rfl, hsz, hP, hK, hD0⟩ := hv
  have hx := B.exec
  have hb := B.bytes
  have hr := B.returns
  have hts := atoms_spec (ws := wsX5_again) B.pre
  have hown : s.vm.findClass RX5 = some m.cls := findClass_of_methodNamed B.named
  have hlocks := B.notSynchronized
  subst hsz
  have hD := hD0.self (sz := s.heap.size)
  generalize hAe : va_A (wDp cy hQ aQ sdQ Q ++ wSt cy (aQ 3) aT (aQ 1) T ++ wSl cy (aQ 6) sS aS (aQ 1) SB ++ wAo (aQ 5) bC C) s.heap.size = A at hD ⊢
  have hA : ∀ q : Nat, s.heap.size ≤ q → A q := fun q h => by rw [← hAe]; exact Or.inr h
  have hS : va_S A s.heap s.heap [] := va_S.rf
  have hl := lv_entry ([.ref hQ, .int v1]) (n := 2) (Nat.le_of_ble_eq_true rfl)
  rw [lg_entry_eq]
  generalize (lg_sl ([.ref hQ, .int v1]) ++ List.replicate (2 - (lg_sl ([.ref hQ, .int v1])).length) Slot.unset).toArray = ls at hl ⊢
  have hl : lv_has ls 2 [(0, .ref hQ), (1, .int v1)] := hl
  unfold fX5_again at hf
  refine lv_iload_n hx hb dX5_again_0 rfl (lv_at hl 1 rfl) ?_
  refine dk_ilt (tgt := 9) hx hb dX5_again_1 (by decide) hf (fun hf => ?_) (fun hf => ?_)
  · refine lv_iconst (v := (-1)) hx hb dX5_again_9 (by decide) ?_
    have e := Option.some.inj hf
    simp only [Prod.mk.injEq] at e
    obtain ⟨e0, e1, e2, e3, e4⟩ := e
    subst e1
    subst e2
    subst e3
    subst e4
    exact W.iret (v := (-1)) hx hb hr (fun t ht hW => ⟨⟨(-1), (), rfl, e0, by rw [ht]; exact hP, hD⟩, hS.F ht⟩) hS.2.2 dX5_again_10
  · refine lv_iload_n hx hb dX5_again_4 rfl (lv_at hl 1 rfl) ?_
    refine lv_iconst (v := 2) hx hb dX5_again_5 (by decide) ?_
    refine dk_clt (tgt := 11) hx hb dX5_again_6 (by decide) hf (fun hf => ?_) (fun hf => ?_)
    · refine lv_aload_n hx hb dX5_again_11 rfl (lv_at hl 0 rfl) ?_
      refine va_get (D := D) (ci := 5) (v := .ref (aQ 7)) (C := RX5) (T := TX5) (N := 10) hx hb hts iX5_again_X5 hown hK.1 hP 0 rfl rfl 7 (by decide) (hts (.fieldLink RX5 49 "DarkPlace" "filled" "[Z") (List.mem_of_getElem? (i := 1) rfl)) (fun _ h9 => h9) rfl dX5_again_12 ?_
      refine lv_iload_n hx hb dX5_again_15 rfl (lv_at hl 1 rfl) ?_
      refine dk_zald hx hb hK.1 hP 1 1 rfl rfl hf dX5_again_16 (fun d16 hf => ?_)
      refine dk_ine (tgt := 23) hx hb dX5_again_17 (by decide) hf (fun hf => ?_) (fun hf => ?_)
      · refine lv_aload_n hx hb dX5_again_23 rfl (lv_at hl 0 rfl) ?_
        refine va_get (D := D) (ci := 5) (v := .ref (aQ 3)) (C := RX5) (T := TX5) (N := 10) hx hb hts iX5_again_X5 hown hK.1 hP 0 rfl rfl 3 (by decide) (hts (.fieldLink RX5 31 "DarkPlace" "now" "LDarkPlace$Stand;") (List.mem_of_getElem? (i := 2) rfl)) (fun _ h9 => h9) rfl dX5_again_24 ?_
        refine lv_aload_n hx hb dX5_again_27 rfl (lv_at hl 0 rfl) ?_
        refine va_get (D := D) (ci := 5) (v := .ref (aQ 6)) (C := RX5) (T := TX5) (N := 10) hx hb hts iX5_again_X5 hown hK.1 hP 0 rfl rfl 6 (by decide) (hts (.fieldLink RX5 45 "DarkPlace" "slots" "[LDarkPlace$Stand;") (List.mem_of_getElem? (i := 3) rfl)) (fun _ h9 => h9) rfl dX5_again_28 ?_
        refine lv_iload_n hx hb dX5_again_31 rfl (lv_at hl 1 rfl) ?_
        by_cases q32_0 : v1 = 0
        · have hf := dk_pos hf q32_0
          refine dk_aald hx hb hK.1 hP 5 2 rfl rfl 0 q32_0 (by decide) dX5_again_32 ?_
          obtain ⟨⟨i33_0, g33_1, g33_2⟩, k33, hf⟩ := dk_bind hf
          dsimp only at hf
          have hPc := hP.sub (ws' := wSt cy (aQ 3) aT (aQ 1) T ++ wSt cy (sS 0) (aS 0) (aQ 1) (SB 0)) [2, 3, 4, 6, 7, 8] rfl
          have hDc := hD.sub (ws' := wSt cy (aQ 3) aT (aQ 1) T ++ wSt cy (sS 0) (aS 0) (aQ 1) (SB 0)) [2, 3, 4, 6, 7, 8] (by decide) rfl
          have hFc := va_free (wc := wSt cy (aQ 3) aT (aQ 1) T ++ wSt cy (sS 0) (aS 0) (aQ 1) (SB 0)) hD hS hA [2, 3, 4, 6, 7, 8] rfl
          refine va_callv (va_runV (As := [.ref (sS 0)]) (rest := []) ⟨hx, hb, hml, hown, hts⟩ (kX3_become l D cy (aQ 3) aT (aQ 1) (sS 0) (aS 0) (aQ 1) s.heap.size T (SB 0) i33_0 g33_1 g33_2 k33) (cwV 1 hts gX5_again_X3_become rfl rfl rfl (by decide +kernel) ⟨Nat.le_of_ble_eq_true rfl, Nat.le_of_ble_eq_true rfl⟩) (dk_premV hK hPc hDc (ci := 3) (q0 := 0) rfl rfl) rfl rfl hl.1 rfl (lv_room (Nat.le_of_ble_eq_true rfl)) dX5_again_33 ⟨Nat.zero_le _, Nat.zero_le _⟩) hS (fun q _ h => hFc q h) hFc (fun u t H1 locs ht hvm hw hB hz1 hk1 hS => ?_)
          obtain ⟨hP1, hD1⟩ := hB
          rw [ht] at hP1
          obtain ⟨hP, hD⟩ := va_join (wr := ([0, 1, 5, 9, 10, 11, 12] : List Nat).filterMap (fun i => (wDp cy hQ aQ sdQ Q ++ wSt cy (aQ 3) aT (aQ 1) T ++ wSl cy (aQ 6) sS aS (aQ 1) SB ++ wAo (aQ 5) bC C)[i]?)) (w1 := wSt cy (aQ 3) aT (aQ 1) (i33_0, dk_upA (dk_upA T.2 1 g33_1) 2 g33_2) ++ wSt cy (sS 0) (aS 0) (aQ 1) (SB 0)) hP hD [2, 3, 4, 6, 7, 8] [0, 1, 5, 9, 10, 11, 12] rfl rfl (by decide) (by decide) hk1 hFc hP1 hD1
          generalize H1 = H at hP hS ⊢
          have hP : va_P D vwCl (wDp cy hQ aQ sdQ Q ++ wSt cy (aQ 3) aT (aQ 1) (i33_0, dk_upA (dk_upA T.2 1 g33_1) 2 g33_2) ++ wSl cy (aQ 6) sS aS (aQ 1) SB ++ wAo (aQ 5) bC C) H := hP.sub [0, 1, 7, 8, 9, 2, 10, 11, 12, 3, 4, 5, 6] rfl
          have hD : va_D A (wDp cy hQ aQ sdQ Q ++ wSt cy (aQ 3) aT (aQ 1) (i33_0, dk_upA (dk_upA T.2 1 g33_1) 2 g33_2) ++ wSl cy (aQ 6) sS aS (aQ 1) SB ++ wAo (aQ 5) bC C) := hD.sub [0, 1, 7, 8, 9, 2, 10, 11, 12, 3, 4, 5, 6] (by decide) rfl
          refine lv_aload_n hx hb dX5_again_36 rfl (lv_at hl 0 rfl) ?_
          refine va_get (D := D) (ci := 5) (v := .ref (aQ 5)) (C := RX5) (T := TX5) (N := 10) hx hb hts iX5_again_X5 hown hK.1 hP 0 rfl rfl 5 (by decide) (hts (.fieldLink RX5 41 "DarkPlace" "acts" "LDarkPlace$Acts;") (List.mem_of_getElem? (i := 4) rfl)) (fun _ h9 => h9) rfl dX5_again_37 ?_
          obtain ⟨i40_0, k40, hf⟩ := dk_bind hf
          have hPc := hP.sub (ws' := wAo (aQ 5) bC C) [12] rfl
          have hDc := hD.sub (ws' := wAo (aQ 5) bC C) [12] (by decide) rfl
          have hFc := va_free (wc := wAo (aQ 5) bC C) hD hS hA [12] rfl
          refine va_callv (va_runV (As := []) (rest := []) ⟨hx, hb, hml, hown, hts⟩ (kX0_clear l D cy (aQ 5) bC H.size C i40_0 k40) (cwV 0 hts gX5_again_X0_clear rfl rfl rfl (by decide +kernel) ⟨Nat.le_of_ble_eq_true rfl, Nat.le_of_ble_eq_true rfl⟩) (dk_premV hK hPc hDc (ci := 0) (q0 := 0) rfl rfl) rfl rfl hl.1 rfl (lv_room (Nat.le_of_ble_eq_true rfl)) dX5_again_40 ⟨Nat.zero_le _, Nat.zero_le _⟩) hS (fun q _ h => hFc q h) hFc (fun u t H1 locs ht hvm hw hB hz1 hk1 hS => ?_)
          obtain ⟨hP1, hD1⟩ := hB
          rw [ht] at hP1
          obtain ⟨hP, hD⟩ := va_join (wr := ([0, 1, 2, 3, 4, 5, 6, 7, 8, 9, 10, 11] : List Nat).filterMap (fun i => (wDp cy hQ aQ sdQ Q ++ wSt cy (aQ 3) aT (aQ 1) (i33_0, dk_upA (dk_upA T.2 1 g33_1) 2 g33_2) ++ wSl cy (aQ 6) sS aS (aQ 1) SB ++ wAo (aQ 5) bC C)[i]?)) (w1 := wAo (aQ 5) bC (i40_0, C.2)) hP hD [12] [0, 1, 2, 3, 4, 5, 6, 7, 8, 9, 10, 11] rfl rfl (by decide) (by decide) hk1 hFc hP1 hD1
          generalize H1 = H at hP hS ⊢
          have hP : va_P D vwCl (wDp cy hQ aQ sdQ Q ++ wSt cy (aQ 3) aT (aQ 1) (i33_0, dk_upA (dk_upA T.2 1 g33_1) 2 g33_2) ++ wSl cy (aQ 6) sS aS (aQ 1) SB ++ wAo (aQ 5) bC (i40_0, C.2)) H := hP.sub [0, 1, 2, 3, 4, 5, 6, 7, 8, 9, 10, 11, 12] rfl
          have hD : va_D A (wDp cy hQ aQ sdQ Q ++ wSt cy (aQ 3) aT (aQ 1) (i33_0, dk_upA (dk_upA T.2 1 g33_1) 2 g33_2) ++ wSl cy (aQ 6) sS aS (aQ 1) SB ++ wAo (aQ 5) bC (i40_0, C.2)) := hD.sub [0, 1, 2, 3, 4, 5, 6, 7, 8, 9, 10, 11, 12] (by decide) rfl
          refine lv_aload_n hx hb dX5_again_43 rfl (lv_at hl 0 rfl) ?_
          refine va_get (D := D) (ci := 5) (v := .ref (aQ 3)) (C := RX5) (T := TX5) (N := 10) hx hb hts iX5_again_X5 hown hK.1 hP 0 rfl rfl 3 (by decide) (hts (.fieldLink RX5 31 "DarkPlace" "now" "LDarkPlace$Stand;") (List.mem_of_getElem? (i := 2) rfl)) (fun _ h9 => h9) rfl dX5_again_44 ?_
          refine va_getN (D := D) (ci := 3) (v := .int (i33_0 5)) (C := RX3) (T := TX3) (N := 9) hx hb hts iX5_again_X3 hown hK.1 hP 2 rfl rfl 5 (by decide) (va_Nw.use rfl (hK.2 (.fieldLinkNest "DarkPlace" 168 "DarkPlace$Stand" "moves" "I" "DarkPlace") (List.mem_of_getElem? (i := 12) rfl))) (fun _ h9 => h9) rfl dX5_again_47 ?_
          have e := Option.some.inj hf
          simp only [Prod.mk.injEq] at e
          obtain ⟨e0, e1, e2, e3, e4⟩ := e
          subst e1
          subst e2
          subst e3
          subst e4
          exact W.iret (v := i33_0 5) hx hb hr (fun t ht hW => ⟨⟨i33_0 5, (), rfl, e0, by rw [ht]; exact hP, hD⟩, hS.F ht⟩) hS.2.2 dX5_again_50
        have hf := dk_neg hf q32_0
        by_cases q32_1 : v1 = 1
        · have hf := dk_pos hf q32_1
          refine dk_aald hx hb hK.1 hP 5 2 rfl rfl 1 q32_1 (by decide) dX5_again_32 ?_
          obtain ⟨⟨i33_0, g33_1, g33_2⟩, k33, hf⟩ := dk_bind hf
          dsimp only at hf
          have hPc := hP.sub (ws' := wSt cy (aQ 3) aT (aQ 1) T ++ wSt cy (sS 1) (aS 1) (aQ 1) (SB 1)) [2, 3, 4, 9, 10, 11] rfl
          have hDc := hD.sub (ws' := wSt cy (aQ 3) aT (aQ 1) T ++ wSt cy (sS 1) (aS 1) (aQ 1) (SB 1)) [2, 3, 4, 9, 10, 11] (by decide) rfl
          have hFc := va_free (wc := wSt cy (aQ 3) aT (aQ 1) T ++ wSt cy (sS 1) (aS 1) (aQ 1) (SB 1)) hD hS hA [2, 3, 4, 9, 10, 11] rfl
          refine va_callv (va_runV (As := [.ref (sS 1)]) (rest := []) ⟨hx, hb, hml, hown, hts⟩ (kX3_become l D cy (aQ 3) aT (aQ 1) (sS 1) (aS 1) (aQ 1) s.heap.size T (SB 1) i33_0 g33_1 g33_2 k33) (cwV 1 hts gX5_again_X3_become rfl rfl rfl (by decide +kernel) ⟨Nat.le_of_ble_eq_true rfl, Nat.le_of_ble_eq_true rfl⟩) (dk_premV hK hPc hDc (ci := 3) (q0 := 0) rfl rfl) rfl rfl hl.1 rfl (lv_room (Nat.le_of_ble_eq_true rfl)) dX5_again_33 ⟨Nat.zero_le _, Nat.zero_le _⟩) hS (fun q _ h => hFc q h) hFc (fun u t H1 locs ht hvm hw hB hz1 hk1 hS => ?_)
          obtain ⟨hP1, hD1⟩ := hB
          rw [ht] at hP1
          obtain ⟨hP, hD⟩ := va_join (wr := ([0, 1, 5, 6, 7, 8, 12] : List Nat).filterMap (fun i => (wDp cy hQ aQ sdQ Q ++ wSt cy (aQ 3) aT (aQ 1) T ++ wSl cy (aQ 6) sS aS (aQ 1) SB ++ wAo (aQ 5) bC C)[i]?)) (w1 := wSt cy (aQ 3) aT (aQ 1) (i33_0, dk_upA (dk_upA T.2 1 g33_1) 2 g33_2) ++ wSt cy (sS 1) (aS 1) (aQ 1) (SB 1)) hP hD [2, 3, 4, 9, 10, 11] [0, 1, 5, 6, 7, 8, 12] rfl rfl (by decide) (by decide) hk1 hFc hP1 hD1
          generalize H1 = H at hP hS ⊢
          have hP : va_P D vwCl (wDp cy hQ aQ sdQ Q ++ wSt cy (aQ 3) aT (aQ 1) (i33_0, dk_upA (dk_upA T.2 1 g33_1) 2 g33_2) ++ wSl cy (aQ 6) sS aS (aQ 1) SB ++ wAo (aQ 5) bC C) H := hP.sub [0, 1, 7, 8, 9, 2, 3, 4, 5, 10, 11, 12, 6] rfl
          have hD : va_D A (wDp cy hQ aQ sdQ Q ++ wSt cy (aQ 3) aT (aQ 1) (i33_0, dk_upA (dk_upA T.2 1 g33_1) 2 g33_2) ++ wSl cy (aQ 6) sS aS (aQ 1) SB ++ wAo (aQ 5) bC C) := hD.sub [0, 1, 7, 8, 9, 2, 3, 4, 5, 10, 11, 12, 6] (by decide) rfl
          refine lv_aload_n hx hb dX5_again_36 rfl (lv_at hl 0 rfl) ?_
          refine va_get (D := D) (ci := 5) (v := .ref (aQ 5)) (C := RX5) (T := TX5) (N := 10) hx hb hts iX5_again_X5 hown hK.1 hP 0 rfl rfl 5 (by decide) (hts (.fieldLink RX5 41 "DarkPlace" "acts" "LDarkPlace$Acts;") (List.mem_of_getElem? (i := 4) rfl)) (fun _ h9 => h9) rfl dX5_again_37 ?_
          obtain ⟨i40_0, k40, hf⟩ := dk_bind hf
          have hPc := hP.sub (ws' := wAo (aQ 5) bC C) [12] rfl
          have hDc := hD.sub (ws' := wAo (aQ 5) bC C) [12] (by decide) rfl
          have hFc := va_free (wc := wAo (aQ 5) bC C) hD hS hA [12] rfl
          refine va_callv (va_runV (As := []) (rest := []) ⟨hx, hb, hml, hown, hts⟩ (kX0_clear l D cy (aQ 5) bC H.size C i40_0 k40) (cwV 0 hts gX5_again_X0_clear rfl rfl rfl (by decide +kernel) ⟨Nat.le_of_ble_eq_true rfl, Nat.le_of_ble_eq_true rfl⟩) (dk_premV hK hPc hDc (ci := 0) (q0 := 0) rfl rfl) rfl rfl hl.1 rfl (lv_room (Nat.le_of_ble_eq_true rfl)) dX5_again_40 ⟨Nat.zero_le _, Nat.zero_le _⟩) hS (fun q _ h => hFc q h) hFc (fun u t H1 locs ht hvm hw hB hz1 hk1 hS => ?_)
          obtain ⟨hP1, hD1⟩ := hB
          rw [ht] at hP1
          obtain ⟨hP, hD⟩ := va_join (wr := ([0, 1, 2, 3, 4, 5, 6, 7, 8, 9, 10, 11] : List Nat).filterMap (fun i => (wDp cy hQ aQ sdQ Q ++ wSt cy (aQ 3) aT (aQ 1) (i33_0, dk_upA (dk_upA T.2 1 g33_1) 2 g33_2) ++ wSl cy (aQ 6) sS aS (aQ 1) SB ++ wAo (aQ 5) bC C)[i]?)) (w1 := wAo (aQ 5) bC (i40_0, C.2)) hP hD [12] [0, 1, 2, 3, 4, 5, 6, 7, 8, 9, 10, 11] rfl rfl (by decide) (by decide) hk1 hFc hP1 hD1
          generalize H1 = H at hP hS ⊢
          have hP : va_P D vwCl (wDp cy hQ aQ sdQ Q ++ wSt cy (aQ 3) aT (aQ 1) (i33_0, dk_upA (dk_upA T.2 1 g33_1) 2 g33_2) ++ wSl cy (aQ 6) sS aS (aQ 1) SB ++ wAo (aQ 5) bC (i40_0, C.2)) H := hP.sub [0, 1, 2, 3, 4, 5, 6, 7, 8, 9, 10, 11, 12] rfl
          have hD : va_D A (wDp cy hQ aQ sdQ Q ++ wSt cy (aQ 3) aT (aQ 1) (i33_0, dk_upA (dk_upA T.2 1 g33_1) 2 g33_2) ++ wSl cy (aQ 6) sS aS (aQ 1) SB ++ wAo (aQ 5) bC (i40_0, C.2)) := hD.sub [0, 1, 2, 3, 4, 5, 6, 7, 8, 9, 10, 11, 12] (by decide) rfl
          refine lv_aload_n hx hb dX5_again_43 rfl (lv_at hl 0 rfl) ?_
          refine va_get (D := D) (ci := 5) (v := .ref (aQ 3)) (C := RX5) (T := TX5) (N := 10) hx hb hts iX5_again_X5 hown hK.1 hP 0 rfl rfl 3 (by decide) (hts (.fieldLink RX5 31 "DarkPlace" "now" "LDarkPlace$Stand;") (List.mem_of_getElem? (i := 2) rfl)) (fun _ h9 => h9) rfl dX5_again_44 ?_
          refine va_getN (D := D) (ci := 3) (v := .int (i33_0 5)) (C := RX3) (T := TX3) (N := 9) hx hb hts iX5_again_X3 hown hK.1 hP 2 rfl rfl 5 (by decide) (va_Nw.use rfl (hK.2 (.fieldLinkNest "DarkPlace" 168 "DarkPlace$Stand" "moves" "I" "DarkPlace") (List.mem_of_getElem? (i := 12) rfl))) (fun _ h9 => h9) rfl dX5_again_47 ?_
          have e := Option.some.inj hf
          simp only [Prod.mk.injEq] at e
          obtain ⟨e0, e1, e2, e3, e4⟩ := e
          subst e1
          subst e2
          subst e3
          subst e4
          exact W.iret (v := i33_0 5) hx hb hr (fun t ht hW => ⟨⟨i33_0 5, (), rfl, e0, by rw [ht]; exact hP, hD⟩, hS.F ht⟩) hS.2.2 dX5_again_50
        have hf := dk_neg hf q32_1
        cases hf
      · refine lv_bipush (v := (-3)) hx hb dX5_again_20 (by decide) ?_
        have e := Option.some.inj hf
        simp only [Prod.mk.injEq] at e
        obtain ⟨e0, e1, e2, e3, e4⟩ := e
        subst e1
        subst e2
        subst e3
        subst e4
        exact W.iret (v := (-3)) hx hb hr (fun t ht hW => ⟨⟨(-3), (), rfl, e0, by rw [ht]; exact hP, hD⟩, hS.F ht⟩) hS.2.2 dX5_again_22
    · refine lv_iconst (v := (-1)) hx hb dX5_again_9 (by decide) ?_
      have e := Option.some.inj hf
      simp only [Prod.mk.injEq] at e
      obtain ⟨e0, e1, e2, e3, e4⟩ := e
      subst e1
      subst e2
      subst e3
      subst e4
      exact W.iret (v := (-1)) hx hb hr (fun t ht hW => ⟨⟨(-1), (), rfl, e0, by rw [ht]; exact hP, hD⟩, hS.F ht⟩) hS.2.2 dX5_again_10
theorem iX5_count_X0 : ∀ w ∈ wsX00, w ∈ wsX5_count := fun _ h => List.mem_cons_of_mem _ (List.mem_append_left _ (List.mem_append_right _ h))
theorem iX5_count_X1 : ∀ w ∈ wsX10, w ∈ wsX5_count := fun _ h => List.mem_cons_of_mem _ (List.mem_append_left _ (List.mem_append_left _ (List.mem_append_left _ (List.mem_append_right _ h))))
theorem iX5_count_X2 : ∀ w ∈ wsX20, w ∈ wsX5_count := fun _ h => List.mem_cons_of_mem _ (List.mem_append_right _ h)
theorem iX5_count_X3 : ∀ w ∈ wsX30, w ∈ wsX5_count := fun _ h => List.mem_cons_of_mem _ (List.mem_append_left _ (List.mem_append_left _ (List.mem_append_right _ h)))
theorem iX5_count_X4 : ∀ w ∈ wsX40, w ∈ wsX5_count := fun _ h => List.mem_cons_of_mem _ (List.mem_append_left _ (List.mem_append_left _ (List.mem_append_left _ (List.mem_append_left _ (List.mem_append_right _ h)))))
theorem iX5_count_X5 : ∀ w ∈ wsX50, w ∈ wsX5_count := fun _ h => List.mem_cons_of_mem _ (List.mem_append_left _ (List.mem_append_left _ (List.mem_append_left _ (List.mem_append_left _ (List.mem_append_left _ (List.mem_append_right _ h))))))
set_option maxHeartbeats 4000000 in
set_option maxRecDepth 100000 in
theorem kX5_count (l : Launch) (D : va_G) (cy : Nat → ClassId) (hQ : Nat) (aQ : Nat → Nat) (sdQ : Int64) (aX : Nat → Nat) (aG : Nat → Nat) (aT : Nat → Nat) (bC : Nat) (aE : Nat → Nat) (Q : dk_O) (X : dk_O) (G : dk_O) (T : dk_O) (C : dk_O) (E : dk_O) (v1 : Int32) (r : Int32) (hf : fX5_count Q X G T C E v1 = some r) : dk_RdI l yX5_count wsX5_count ({ frames := 0, cells := 0, slots := 0, locals := 0 }) D cy [.ref hQ, .int v1] (wDp cy hQ aQ sdQ Q ++ wTx cy (aQ 0) aX X ++ wNt cy (aQ 1) aG G ++ wSt cy (aQ 3) aT (aQ 1) T ++ wAo (aQ 5) bC C ++ wSe cy (aQ 8) aE E) r := by
  refine Met.ofW (cc := cX5_count) (maxL := 2) (ret := (some .int)) (by decide) rfl ?_
  intro p e s m args below meth c s₁ B hml hv
  obtain ⟨rfl, hP, hK⟩ := hv
  have hx := B.exec
  have hb := B.bytes
  have hr := B.returns
  have hts := atoms_spec (ws := wsX5_count) B.pre
  have hown : s.vm.findClass RX5 = some m.cls := findClass_of_methodNamed B.named
  have hlocks := B.notSynchronized
  have hl := lv_entry ([.ref hQ, .int v1]) (n := 2) (Nat.le_of_ble_eq_true rfl)
  rw [lg_entry_eq]
  generalize (lg_sl ([.ref hQ, .int v1]) ++ List.replicate (2 - (lg_sl ([.ref hQ, .int v1])).length) Slot.unset).toArray = ls at hl ⊢
  have hl : lv_has ls 2 [(0, .ref hQ), (1, .int v1)] := hl
  unfold fX5_count at hf
  refine lv_iload_n hx hb dX5_count_0 rfl (lv_at hl 1 rfl) ?_
  by_cases q1_0 : v1 = 0
  · have hf := dk_pos hf q1_0
    refine lv_tableIn (tgt := 48) hx hb dX5_count_1 (by rw [q1_0]; decide) (by rw [q1_0]; decide) (by rw [q1_0]; rfl) (by decide) ?_
    refine lv_aload_n hx hb dX5_count_48 rfl (lv_at hl 0 rfl) ?_
    refine va_get (D := D) (ci := 5) (v := .ref (aQ 0)) (C := RX5) (T := TX5) (N := 10) hx hb hts iX5_count_X5 hown hK.1 hP 0 rfl rfl 0 (by decide) (hts (.fieldLink RX5 12 "DarkPlace" "text" "LDarkPlace$Text;") (List.mem_of_getElem? (i := 1) rfl)) (fun _ h9 => h9) rfl dX5_count_49 ?_
    refine va_getN (D := D) (ci := 4) (v := .int (X.1 1)) (C := RX4) (T := TX4) (N := 2) hx hb hts iX5_count_X4 hown hK.1 hP 2 rfl rfl 1 (by decide) (va_Nw.use rfl (hK.2 (.fieldLinkNest "DarkPlace" 245 "DarkPlace$Text" "length" "I" "DarkPlace") (List.mem_of_getElem? (i := 0) rfl))) (fun _ h9 => h9) rfl dX5_count_52 ?_
    exact W.iret (v := X.1 1) hx hb hr (fun t ht hW => ⟨X.1 1, rfl, Option.some.inj hf, ht⟩) t_nil dX5_count_55
  have hf := dk_neg hf q1_0
  by_cases q1_1 : v1 = 1
  · have hf := dk_pos hf q1_1
    refine lv_tableIn (tgt := 56) hx hb dX5_count_1 (by rw [q1_1]; decide) (by rw [q1_1]; decide) (by rw [q1_1]; rfl) (by decide) ?_
    refine lv_aload_n hx hb dX5_count_56 rfl (lv_at hl 0 rfl) ?_
    refine va_get (D := D) (ci := 5) (v := .ref (aQ 1)) (C := RX5) (T := TX5) (N := 10) hx hb hts iX5_count_X5 hown hK.1 hP 0 rfl rfl 1 (by decide) (hts (.fieldLink RX5 19 "DarkPlace" "ground" "LDarkPlace$Net;") (List.mem_of_getElem? (i := 2) rfl)) (fun _ h9 => h9) rfl dX5_count_57 ?_
    refine va_getN (D := D) (ci := 1) (v := .int (G.1 0)) (C := RX1) (T := TX1) (N := 9) hx hb hts iX5_count_X1 hown hK.1 hP 4 rfl rfl 0 (by decide) (va_Nw.use rfl (hK.2 (.fieldLinkNest "DarkPlace" 248 "DarkPlace$Net" "places" "I" "DarkPlace") (List.mem_of_getElem? (i := 2) rfl))) (fun _ h9 => h9) rfl dX5_count_60 ?_
    exact W.iret (v := G.1 0) hx hb hr (fun t ht hW => ⟨G.1 0, rfl, Option.some.inj hf, ht⟩) t_nil dX5_count_63
  have hf := dk_neg hf q1_1
  by_cases q1_2 : v1 = 2
  · have hf := dk_pos hf q1_2
    refine lv_tableIn (tgt := 64) hx hb dX5_count_1 (by rw [q1_2]; decide) (by rw [q1_2]; decide) (by rw [q1_2]; rfl) (by decide) ?_
    refine lv_aload_n hx hb dX5_count_64 rfl (lv_at hl 0 rfl) ?_
    refine va_get (D := D) (ci := 5) (v := .ref (aQ 1)) (C := RX5) (T := TX5) (N := 10) hx hb hts iX5_count_X5 hown hK.1 hP 0 rfl rfl 1 (by decide) (hts (.fieldLink RX5 19 "DarkPlace" "ground" "LDarkPlace$Net;") (List.mem_of_getElem? (i := 2) rfl)) (fun _ h9 => h9) rfl dX5_count_65 ?_
    refine va_getN (D := D) (ci := 1) (v := .int (G.1 4)) (C := RX1) (T := TX1) (N := 9) hx hb hts iX5_count_X1 hown hK.1 hP 4 rfl rfl 4 (by decide) (va_Nw.use rfl (hK.2 (.fieldLinkNest "DarkPlace" 96 "DarkPlace$Net" "edges" "I" "DarkPlace") (List.mem_of_getElem? (i := 9) rfl))) (fun _ h9 => h9) rfl dX5_count_68 ?_
    exact W.iret (v := G.1 4) hx hb hr (fun t ht hW => ⟨G.1 4, rfl, Option.some.inj hf, ht⟩) t_nil dX5_count_71
  have hf := dk_neg hf q1_2
  by_cases q1_3 : v1 = 3
  · have hf := dk_pos hf q1_3
    refine lv_tableIn (tgt := 72) hx hb dX5_count_1 (by rw [q1_3]; decide) (by rw [q1_3]; decide) (by rw [q1_3]; rfl) (by decide) ?_
    refine lv_aload_n hx hb dX5_count_72 rfl (lv_at hl 0 rfl) ?_
    refine va_get (D := D) (ci := 5) (v := .ref (aQ 3)) (C := RX5) (T := TX5) (N := 10) hx hb hts iX5_count_X5 hown hK.1 hP 0 rfl rfl 3 (by decide) (hts (.fieldLink RX5 31 "DarkPlace" "now" "LDarkPlace$Stand;") (List.mem_of_getElem? (i := 3) rfl)) (fun _ h9 => h9) rfl dX5_count_73 ?_
    refine va_getN (D := D) (ci := 3) (v := .int (T.1 3)) (C := RX3) (T := TX3) (N := 9) hx hb hts iX5_count_X3 hown hK.1 hP 8 rfl rfl 3 (by decide) (va_Nw.use rfl (hK.2 (.fieldLinkNest "DarkPlace" 147 "DarkPlace$Stand" "searchers" "I" "DarkPlace") (List.mem_of_getElem? (i := 10) rfl))) (fun _ h9 => h9) rfl dX5_count_76 ?_
    exact W.iret (v := T.1 3) hx hb hr (fun t ht hW => ⟨T.1 3, rfl, Option.some.inj hf, ht⟩) t_nil dX5_count_79
  have hf := dk_neg hf q1_3
  by_cases q1_4 : v1 = 4
  · have hf := dk_pos hf q1_4
    refine lv_tableIn (tgt := 80) hx hb dX5_count_1 (by rw [q1_4]; decide) (by rw [q1_4]; decide) (by rw [q1_4]; rfl) (by decide) ?_
    refine lv_aload_n hx hb dX5_count_80 rfl (lv_at hl 0 rfl) ?_
    refine va_get (D := D) (ci := 5) (v := .ref (aQ 1)) (C := RX5) (T := TX5) (N := 10) hx hb hts iX5_count_X5 hown hK.1 hP 0 rfl rfl 1 (by decide) (hts (.fieldLink RX5 19 "DarkPlace" "ground" "LDarkPlace$Net;") (List.mem_of_getElem? (i := 2) rfl)) (fun _ h9 => h9) rfl dX5_count_81 ?_
    refine va_getN (D := D) (ci := 1) (v := .int (G.1 1)) (C := RX1) (T := TX1) (N := 9) hx hb hts iX5_count_X1 hown hK.1 hP 4 rfl rfl 1 (by decide) (va_Nw.use rfl (hK.2 (.fieldLinkNest "DarkPlace" 251 "DarkPlace$Net" "home" "I" "DarkPlace") (List.mem_of_getElem? (i := 4) rfl))) (fun _ h9 => h9) rfl dX5_count_84 ?_
    exact W.iret (v := G.1 1) hx hb hr (fun t ht hW => ⟨G.1 1, rfl, Option.some.inj hf, ht⟩) t_nil dX5_count_87
  have hf := dk_neg hf q1_4
  by_cases q1_5 : v1 = 5
  · have hf := dk_pos hf q1_5
    refine lv_tableIn (tgt := 88) hx hb dX5_count_1 (by rw [q1_5]; decide) (by rw [q1_5]; decide) (by rw [q1_5]; rfl) (by decide) ?_
    refine lv_aload_n hx hb dX5_count_88 rfl (lv_at hl 0 rfl) ?_
    refine va_get (D := D) (ci := 5) (v := .ref (aQ 3)) (C := RX5) (T := TX5) (N := 10) hx hb hts iX5_count_X5 hown hK.1 hP 0 rfl rfl 3 (by decide) (hts (.fieldLink RX5 31 "DarkPlace" "now" "LDarkPlace$Stand;") (List.mem_of_getElem? (i := 3) rfl)) (fun _ h9 => h9) rfl dX5_count_89 ?_
    refine va_getN (D := D) (ci := 3) (v := .int (T.1 4)) (C := RX3) (T := TX3) (N := 9) hx hb hts iX5_count_X3 hown hK.1 hP 8 rfl rfl 4 (by decide) (va_Nw.use rfl (hK.2 (.fieldLinkNest "DarkPlace" 154 "DarkPlace$Stand" "hole" "I" "DarkPlace") (List.mem_of_getElem? (i := 11) rfl))) (fun _ h9 => h9) rfl dX5_count_92 ?_
    exact W.iret (v := T.1 4) hx hb hr (fun t ht hW => ⟨T.1 4, rfl, Option.some.inj hf, ht⟩) t_nil dX5_count_95
  have hf := dk_neg hf q1_5
  by_cases q1_6 : v1 = 6
  · have hf := dk_pos hf q1_6
    refine lv_tableIn (tgt := 96) hx hb dX5_count_1 (by rw [q1_6]; decide) (by rw [q1_6]; decide) (by rw [q1_6]; rfl) (by decide) ?_
    refine lv_aload_n hx hb dX5_count_96 rfl (lv_at hl 0 rfl) ?_
    refine va_get (D := D) (ci := 5) (v := .ref (aQ 5)) (C := RX5) (T := TX5) (N := 10) hx hb hts iX5_count_X5 hown hK.1 hP 0 rfl rfl 5 (by decide) (hts (.fieldLink RX5 41 "DarkPlace" "acts" "LDarkPlace$Acts;") (List.mem_of_getElem? (i := 4) rfl)) (fun _ h9 => h9) rfl dX5_count_97 ?_
    refine va_getN (D := D) (ci := 0) (v := .int (C.1 1)) (C := RX0) (T := TX0) (N := 2) hx hb hts iX5_count_X0 hown hK.1 hP 11 rfl rfl 1 (by decide) (va_Nw.use rfl (hK.2 (.fieldLinkNest "DarkPlace" 161 "DarkPlace$Acts" "size" "I" "DarkPlace") (List.mem_of_getElem? (i := 14) rfl))) (fun _ h9 => h9) rfl dX5_count_100 ?_
    exact W.iret (v := C.1 1) hx hb hr (fun t ht hW => ⟨C.1 1, rfl, Option.some.inj hf, ht⟩) t_nil dX5_count_103
  have hf := dk_neg hf q1_6
  by_cases q1_7 : v1 = 7
  · have hf := dk_pos hf q1_7
    refine lv_tableIn (tgt := 104) hx hb dX5_count_1 (by rw [q1_7]; decide) (by rw [q1_7]; decide) (by rw [q1_7]; rfl) (by decide) ?_
    refine lv_aload_n hx hb dX5_count_104 rfl (lv_at hl 0 rfl) ?_
    refine va_get (D := D) (ci := 5) (v := .ref (aQ 8)) (C := RX5) (T := TX5) (N := 10) hx hb hts iX5_count_X5 hown hK.1 hP 0 rfl rfl 8 (by decide) (hts (.fieldLink RX5 56 "DarkPlace" "seen" "LDarkPlace$Seen;") (List.mem_of_getElem? (i := 5) rfl)) (fun _ h9 => h9) rfl dX5_count_105 ?_
    refine va_getN (D := D) (ci := 2) (v := .int (E.1 2)) (C := RX2) (T := TX2) (N := 3) hx hb hts iX5_count_X2 hown hK.1 hP 12 rfl rfl 2 (by decide) (va_Nw.use rfl (hK.2 (.fieldLinkNest "DarkPlace" 208 "DarkPlace$Seen" "size" "I" "DarkPlace") (List.mem_of_getElem? (i := 15) rfl))) (fun _ h9 => h9) rfl dX5_count_108 ?_
    exact W.iret (v := E.1 2) hx hb hr (fun t ht hW => ⟨E.1 2, rfl, Option.some.inj hf, ht⟩) t_nil dX5_count_111
  have hf := dk_neg hf q1_7
  refine lv_tableOut (tgt := 112) hx hb dX5_count_1 (dk_tabOut 0 8 (by decide) (fun k h1 h2 => by
    rcases (show k = 0 ∨ k = 1 ∨ k = 2 ∨ k = 3 ∨ k = 4 ∨ k = 5 ∨ k = 6 ∨ k = 7 by omega) with rfl | rfl | rfl | rfl | rfl | rfl | rfl | rfl
    · exact q1_0
    · exact q1_1
    · exact q1_2
    · exact q1_3
    · exact q1_4
    · exact q1_5
    · exact q1_6
    · exact q1_7)) (by decide) ?_
  refine lv_bipush (v := (-2)) hx hb dX5_count_112 (by decide) ?_
  exact W.iret (v := (-2)) hx hb hr (fun t ht hW => ⟨(-2), rfl, Option.some.inj hf, ht⟩) t_nil dX5_count_114
