-- printed by wip/gen (walks of the bytecode)
theorem iX5_fewestSearchers_X1 : ∀ w ∈ wsX10, w ∈ wsX5_fewestSearchers := fun _ h => List.mem_cons_of_mem _ (List.mem_append_left _ (List.mem_append_right _ h))
theorem iX5_fewestSearchers_X5 : ∀ w ∈ wsX50, w ∈ wsX5_fewestSearchers := fun _ h => List.mem_cons_of_mem _ (List.mem_append_left _ (List.mem_append_left _ (List.mem_append_right _ h)))
set_option maxHeartbeats 4000000 in
set_option maxRecDepth 100000 in
theorem kX5_fewestSearchers (l : Launch) (D : va_G) (cy : Nat → ClassId) (hQ : Nat) (aQ : Nat → Nat) (sdQ : Int64) (aG : Nat → Nat) (aU : Nat → Nat) (sz : Nat) (Q : dk_O) (G : dk_O) (U : dk_O)  (r : Int32) (oU_I : (Nat → Int32)) (oU_1 : (Nat → Int32)) (oU_2 : (Nat → Int32)) (hf : fX5_fewestSearchers Q G U = some (r, oU_I, oU_1, oU_2)) : dk_MuI l yX5_fewestSearchers wsX5_fewestSearchers ({ frames := 5, cells := 0, slots := 0, locals := 117 }) D cy [.ref hQ] (wDp cy hQ aQ sdQ Q ++ wNt cy (aQ 1) aG G ++ wSt cy (aQ 4) aU (aQ 1) U) (wDp cy hQ aQ sdQ Q ++ wNt cy (aQ 1) aG G ++ wSt cy (aQ 4) aU (aQ 1) (oU_I, dk_upA (dk_upA U.2 1 oU_1) 2 oU_2)) sz r := by
  refine Met.ofW (cc := cX5_fewestSearchers) (maxL := 4) (ret := (some .int)) (by decide) rfl ?_
  intro p e s m args below meth c s₁ B hml hv
  obtain ⟨rfl, hsz, hP, hK, hD0⟩ := hv
  have hx := B.exec
  have hb := B.bytes
  have hr := B.returns
  have hts := atoms_spec (ws := wsX5_fewestSearchers) B.pre
  have hown : s.vm.findClass RX5 = some m.cls := findClass_of_methodNamed B.named
  have hlocks := B.notSynchronized
  subst hsz
  have hD := hD0.self (sz := s.heap.size)
  generalize hAe : va_A (wDp cy hQ aQ sdQ Q ++ wNt cy (aQ 1) aG G ++ wSt cy (aQ 4) aU (aQ 1) U) s.heap.size = A at hD ⊢
  have hA : ∀ q : Nat, s.heap.size ≤ q → A q := fun q h => by rw [← hAe]; exact Or.inr h
  have hS : va_S A s.heap s.heap [] := va_S.rf
  have hl := lv_entry ([.ref hQ]) (n := 4) (Nat.le_of_ble_eq_true rfl)
  rw [lg_entry_eq]
  generalize (lg_sl ([.ref hQ]) ++ List.replicate (4 - (lg_sl ([.ref hQ])).length) Slot.unset).toArray = ls at hl ⊢
  have hl : lv_has ls 4 [(0, .ref hQ)] := hl
  have L2 : ∀ (fu2 : Nat) (x1 : Int32) (U_I : (Nat → Int32)) (U_1 : (Nat → Int32)) (U_2 : (Nat → Int32)) (H : Heap) (locs : List Loc) (ls : Array Slot), va_P D vwCl (wDp cy hQ aQ sdQ Q ++ wNt cy (aQ 1) aG G ++ wSt cy (aQ 4) aU (aQ 1) (U_I, dk_upA (dk_upA U.2 1 U_1) 2 U_2)) H → va_D A (wDp cy hQ aQ sdQ Q ++ wNt cy (aQ 1) aG G ++ wSt cy (aQ 4) aU (aQ 1) (U_I, dk_upA (dk_upA U.2 1 U_1) 2 U_2)) → va_S A s.heap H locs → lv_has ls 4 [(0, .ref hQ), (1, .int x1)] → fX5_fewestSearchers_L2 Q G U fu2 x1 U_I U_1 U_2 = some (r, oU_I, oU_1, oU_2) → W p l e (headSpec wsX5_fewestSearchers ({ frames := 5, cells := 0, slots := 0, locals := 117 })).room s m ([.ref hQ]).toArray below meth c H locs 0 0 (MQ below (va_Qi (fun (x : Int32) (_ : Unit) => x = r) (dk_B D (wDp cy hQ aQ sdQ Q ++ wNt cy (aQ 1) aG G ++ wSt cy (aQ 4) aU (aQ 1) (oU_I, dk_upA (dk_upA U.2 1 oU_1) 2 oU_2)) A) A) ([.ref hQ]).toArray s 0 0 A) (F0 m 2 ls []) := by
    intro fu2
    induction fu2 with
    | zero =>
      intro x1 U_I U_1 U_2 H locs ls hP hD hS hl hf
      rw [fX5_fewestSearchers_L2] at hf
      cases hf
    | succ fu2 ih2 =>
      intro x1 U_I U_1 U_2 H locs ls hP hD hS hl hf
      rw [fX5_fewestSearchers_L2] at hf
      have L80 : ∀ (x1 : Int32) (x2 : Int32) (U_I : (Nat → Int32)) (U_1 : (Nat → Int32)) (U_2 : (Nat → Int32)) (H : Heap) (locs : List Loc) (ls : Array Slot), va_P D vwCl (wDp cy hQ aQ sdQ Q ++ wNt cy (aQ 1) aG G ++ wSt cy (aQ 4) aU (aQ 1) (U_I, dk_upA (dk_upA U.2 1 U_1) 2 U_2)) H → va_D A (wDp cy hQ aQ sdQ Q ++ wNt cy (aQ 1) aG G ++ wSt cy (aQ 4) aU (aQ 1) (U_I, dk_upA (dk_upA U.2 1 U_1) 2 U_2)) → va_S A s.heap H locs → lv_has ls 4 [(0, .ref hQ), (1, .int x1), (2, .int x2)] → fX5_fewestSearchers_L80 Q G U (fun z0 z1 z2 z3 => fX5_fewestSearchers_L2 Q G U fu2 z0 z1 z2 z3) x1 x2 U_I U_1 U_2 = some (r, oU_I, oU_1, oU_2) → W p l e (headSpec wsX5_fewestSearchers ({ frames := 5, cells := 0, slots := 0, locals := 117 })).room s m ([.ref hQ]).toArray below meth c H locs 0 0 (MQ below (va_Qi (fun (x : Int32) (_ : Unit) => x = r) (dk_B D (wDp cy hQ aQ sdQ Q ++ wNt cy (aQ 1) aG G ++ wSt cy (aQ 4) aU (aQ 1) (oU_I, dk_upA (dk_upA U.2 1 oU_1) 2 oU_2)) A) A) ([.ref hQ]).toArray s 0 0 A) (F0 m 80 ls []) := by
        intro x1 x2 U_I U_1 U_2 H locs ls hP hD hS hl hf
        unfold fX5_fewestSearchers_L80 at hf
        refine lv_iload_n hx hb dX5_fewestSearchers_80 rfl (lv_at hl 2 rfl) ?_
        refine dk_ieq (tgt := 86) hx hb dX5_fewestSearchers_81 (by decide) hf (fun hf => ?_) (fun hf => ?_)
        · refine lv_iinc (v := x1 + 1) (lv' := [(1, .int (x1 + 1)), (0, .ref hQ), (2, .int x2)]) hx hb dX5_fewestSearchers_86 hl (k := 1) rfl rfl (by decide) rfl (fun ls hl => ?_)
          refine lv_goto (tgt := 2) hx hb dX5_fewestSearchers_89 (by decide) ?_
          exact ih2 (x1 + 1) U_I U_1 U_2 _ _ _ hP hD hS (lv_sub hl [1, 0] rfl) hf
        · refine lv_iload_n hx hb dX5_fewestSearchers_84 rfl (lv_at hl 1 rfl) ?_
          have e := Option.some.inj hf
          simp only [Prod.mk.injEq] at e
          obtain ⟨e0, e1, e2, e3⟩ := e
          subst e1
          subst e2
          subst e3
          exact W.iret (v := x1) hx hb hr (fun t ht hW => ⟨⟨x1, (), rfl, e0, by rw [ht]; exact hP, hD⟩, hS.F ht⟩) hS.2.2 dX5_fewestSearchers_85
      have L11 : ∀ (fu11 : Nat) (x1 : Int32) (x2 : Int32) (x3 : Int32) (U_I : (Nat → Int32)) (U_1 : (Nat → Int32)) (U_2 : (Nat → Int32)) (H : Heap) (locs : List Loc) (ls : Array Slot), va_P D vwCl (wDp cy hQ aQ sdQ Q ++ wNt cy (aQ 1) aG G ++ wSt cy (aQ 4) aU (aQ 1) (U_I, dk_upA (dk_upA U.2 1 U_1) 2 U_2)) H → va_D A (wDp cy hQ aQ sdQ Q ++ wNt cy (aQ 1) aG G ++ wSt cy (aQ 4) aU (aQ 1) (U_I, dk_upA (dk_upA U.2 1 U_1) 2 U_2)) → va_S A s.heap H locs → lv_has ls 4 [(0, .ref hQ), (1, .int x1), (2, .int x2), (3, .int x3)] → fX5_fewestSearchers_L11 Q G U (fun z0 z1 z2 z3 => fX5_fewestSearchers_L2 Q G U fu2 z0 z1 z2 z3) fu11 x1 x2 x3 U_I U_1 U_2 = some (r, oU_I, oU_1, oU_2) → W p l e (headSpec wsX5_fewestSearchers ({ frames := 5, cells := 0, slots := 0, locals := 117 })).room s m ([.ref hQ]).toArray below meth c H locs 0 0 (MQ below (va_Qi (fun (x : Int32) (_ : Unit) => x = r) (dk_B D (wDp cy hQ aQ sdQ Q ++ wNt cy (aQ 1) aG G ++ wSt cy (aQ 4) aU (aQ 1) (oU_I, dk_upA (dk_upA U.2 1 oU_1) 2 oU_2)) A) A) ([.ref hQ]).toArray s 0 0 A) (F0 m 11 ls []) := by
        intro fu11
        induction fu11 with
        | zero =>
          intro x1 x2 x3 U_I U_1 U_2 H locs ls hP hD hS hl hf
          rw [fX5_fewestSearchers_L11] at hf
          cases hf
        | succ fu11 ih11 =>
          intro x1 x2 x3 U_I U_1 U_2 H locs ls hP hD hS hl hf
          rw [fX5_fewestSearchers_L11] at hf
          refine lv_iload_n hx hb dX5_fewestSearchers_11 rfl (lv_at hl 3 rfl) ?_
          refine lv_aload_n hx hb dX5_fewestSearchers_12 rfl (lv_at hl 0 rfl) ?_
          refine va_get (D := D) (ci := 5) (v := .ref (aQ 1)) (C := RX5) (T := TX5) (N := 10) hx hb hts iX5_fewestSearchers_X5 hown hK.1 hP 0 rfl rfl 1 (by decide) (hts (.fieldLink RX5 19 "DarkPlace" "ground" "LDarkPlace$Net;") (List.mem_of_getElem? (i := 1) rfl)) (fun _ h9 => h9) rfl dX5_fewestSearchers_13 ?_
          refine va_getN (D := D) (ci := 1) (v := .int (G.1 0)) (C := RX1) (T := TX1) (N := 9) hx hb hts iX5_fewestSearchers_X1 hown hK.1 hP 2 rfl rfl 0 (by decide) (va_Nw.use rfl (hK.2 (.fieldLinkNest "DarkPlace" 248 "DarkPlace$Net" "places" "I" "DarkPlace") (List.mem_of_getElem? (i := 2) rfl))) (fun _ h9 => h9) rfl dX5_fewestSearchers_16 ?_
          refine dk_cge (tgt := 80) hx hb dX5_fewestSearchers_19 (by decide) hf (fun hf => ?_) (fun hf => ?_)
          · exact L80 x1 x2 U_I U_1 U_2 _ _ _ hP hD hS (lv_sub hl [0, 1, 2] rfl) hf
          · refine lv_iload_n hx hb dX5_fewestSearchers_22 rfl (lv_at hl 2 rfl) ?_
            refine dk_ieq (tgt := 80) hx hb dX5_fewestSearchers_23 (by decide) hf (fun hf => ?_) (fun hf => ?_)
            · exact L80 x1 x2 U_I U_1 U_2 _ _ _ hP hD hS (lv_sub hl [0, 1, 2] rfl) hf
            · refine lv_iload_n hx hb dX5_fewestSearchers_26 rfl (lv_at hl 3 rfl) ?_
              refine lv_aload_n hx hb dX5_fewestSearchers_27 rfl (lv_at hl 0 rfl) ?_
              refine va_get (D := D) (ci := 5) (v := .ref (aQ 1)) (C := RX5) (T := TX5) (N := 10) hx hb hts iX5_fewestSearchers_X5 hown hK.1 hP 0 rfl rfl 1 (by decide) (hts (.fieldLink RX5 19 "DarkPlace" "ground" "LDarkPlace$Net;") (List.mem_of_getElem? (i := 1) rfl)) (fun _ h9 => h9) rfl dX5_fewestSearchers_28 ?_
              refine va_getN (D := D) (ci := 1) (v := .int (G.1 1)) (C := RX1) (T := TX1) (N := 9) hx hb hts iX5_fewestSearchers_X1 hown hK.1 hP 2 rfl rfl 1 (by decide) (va_Nw.use rfl (hK.2 (.fieldLinkNest "DarkPlace" 251 "DarkPlace$Net" "home" "I" "DarkPlace") (List.mem_of_getElem? (i := 4) rfl))) (fun _ h9 => h9) rfl dX5_fewestSearchers_31 ?_
              refine dk_ceq (tgt := 74) hx hb dX5_fewestSearchers_34 (by decide) hf (fun hf => ?_) (fun hf => ?_)
              · refine lv_iinc (v := x3 + 1) (lv' := [(3, .int (x3 + 1)), (0, .ref hQ), (1, .int x1), (2, .int x2)]) hx hb dX5_fewestSearchers_74 hl (k := 3) rfl rfl (by decide) rfl (fun ls hl => ?_)
                refine lv_goto (tgt := 11) hx hb dX5_fewestSearchers_77 (by decide) ?_
                exact ih11 x1 x2 (x3 + 1) U_I U_1 U_2 _ _ _ hP hD hS (lv_sub hl [1, 2, 3, 0] rfl) hf
              · refine lv_aload_n hx hb dX5_fewestSearchers_37 rfl (lv_at hl 0 rfl) ?_
                refine va_get (D := D) (ci := 5) (v := .ref (aQ 4)) (C := RX5) (T := TX5) (N := 10) hx hb hts iX5_fewestSearchers_X5 hown hK.1 hP 0 rfl rfl 4 (by decide) (hts (.fieldLink RX5 35 "DarkPlace" "trial" "LDarkPlace$Stand;") (List.mem_of_getElem? (i := 2) rfl)) (fun _ h9 => h9) rfl dX5_fewestSearchers_38 ?_
                refine lv_iload_n hx hb dX5_fewestSearchers_41 rfl (lv_at hl 1 rfl) ?_
                refine lv_iload_n hx hb dX5_fewestSearchers_42 rfl (lv_at hl 3 rfl) ?_
                obtain ⟨⟨i43_0, g43_1, g43_2⟩, k43, hf⟩ := dk_bind hf
                dsimp only at hf
                have hPc := hP.sub (ws' := wSt cy (aQ 4) aU (aQ 1) (U_I, dk_upA (dk_upA U.2 1 U_1) 2 U_2) ++ wNt cy (aQ 1) aG G) [6, 7, 8, 2, 3, 4, 5] rfl
                have hDc := hD.sub (ws' := wSt cy (aQ 4) aU (aQ 1) (U_I, dk_upA (dk_upA U.2 1 U_1) 2 U_2) ++ wNt cy (aQ 1) aG G) [6, 7, 8, 2, 3, 4, 5] (by decide) rfl
                have hFc := va_free (wc := wSt cy (aQ 4) aU (aQ 1) (U_I, dk_upA (dk_upA U.2 1 U_1) 2 U_2) ++ wNt cy (aQ 1) aG G) hD hS hA [6, 7, 8, 2, 3, 4, 5] rfl
                refine va_callv (va_runV (As := [.int x1, .int x3]) (rest := []) ⟨hx, hb, hml, hown, hts⟩ (kX3_begin l D cy (aQ 4) aU (aQ 1) aG H.size (U_I, dk_upA (dk_upA U.2 1 U_1) 2 U_2) G x1 x3 i43_0 g43_1 g43_2 k43) (cwV 2 hts gX5_fewestSearchers_X3_begin rfl rfl rfl (by decide +kernel) ⟨Nat.le_of_ble_eq_true rfl, Nat.le_of_ble_eq_true rfl⟩) (dk_premV hK hPc hDc (ci := 3) (q0 := 0) rfl rfl) rfl rfl hl.1 rfl (lv_room (Nat.le_of_ble_eq_true rfl)) dX5_fewestSearchers_43 ⟨Nat.zero_le _, Nat.zero_le _⟩) hS (fun q _ h => hFc q h) hFc (fun u t H1 locs ht hvm hw hB hz1 hk1 hS => ?_)
                obtain ⟨hP1, hD1⟩ := hB
                rw [ht] at hP1
                obtain ⟨hP, hD⟩ := va_join (wr := ([0, 1] : List Nat).filterMap (fun i => (wDp cy hQ aQ sdQ Q ++ wNt cy (aQ 1) aG G ++ wSt cy (aQ 4) aU (aQ 1) (U_I, dk_upA (dk_upA U.2 1 U_1) 2 U_2))[i]?)) (w1 := wSt cy (aQ 4) aU (aQ 1) (i43_0, dk_upA (dk_upA U.2 1 g43_1) 2 g43_2) ++ wNt cy (aQ 1) aG G) hP hD [6, 7, 8, 2, 3, 4, 5] [0, 1] rfl rfl (by decide) (by decide) hk1 hFc hP1 hD1
                generalize H1 = H at hP hS ⊢
                have hP : va_P D vwCl (wDp cy hQ aQ sdQ Q ++ wNt cy (aQ 1) aG G ++ wSt cy (aQ 4) aU (aQ 1) (i43_0, dk_upA (dk_upA U.2 1 g43_1) 2 g43_2)) H := hP.sub [0, 1, 5, 6, 7, 8, 2, 3, 4] rfl
                have hD : va_D A (wDp cy hQ aQ sdQ Q ++ wNt cy (aQ 1) aG G ++ wSt cy (aQ 4) aU (aQ 1) (i43_0, dk_upA (dk_upA U.2 1 g43_1) 2 g43_2)) := hD.sub [0, 1, 5, 6, 7, 8, 2, 3, 4] (by decide) rfl
                refine lv_aload_n hx hb dX5_fewestSearchers_46 rfl (lv_at hl 0 rfl) ?_
                refine va_get (D := D) (ci := 5) (v := .ref (aQ 4)) (C := RX5) (T := TX5) (N := 10) hx hb hts iX5_fewestSearchers_X5 hown hK.1 hP 0 rfl rfl 4 (by decide) (hts (.fieldLink RX5 35 "DarkPlace" "trial" "LDarkPlace$Stand;") (List.mem_of_getElem? (i := 2) rfl)) (fun _ h9 => h9) rfl dX5_fewestSearchers_47 ?_
                obtain ⟨⟨r50, i50_0, g50_1, g50_2⟩, k50, hf⟩ := dk_bind hf
                dsimp only at hf
                have hPc := hP.sub (ws' := wSt cy (aQ 4) aU (aQ 1) (i43_0, dk_upA (dk_upA U.2 1 g43_1) 2 g43_2) ++ wNt cy (aQ 1) aG G) [6, 7, 8, 2, 3, 4, 5] rfl
                have hDc := hD.sub (ws' := wSt cy (aQ 4) aU (aQ 1) (i43_0, dk_upA (dk_upA U.2 1 g43_1) 2 g43_2) ++ wNt cy (aQ 1) aG G) [6, 7, 8, 2, 3, 4, 5] (by decide) rfl
                have hFc := va_free (wc := wSt cy (aQ 4) aU (aQ 1) (i43_0, dk_upA (dk_upA U.2 1 g43_1) 2 g43_2) ++ wNt cy (aQ 1) aG G) hD hS hA [6, 7, 8, 2, 3, 4, 5] rfl
                refine va_calli (va_runV (As := []) (rest := []) ⟨hx, hb, hml, hown, hts⟩ (kX3_playTillKnown l D cy (aQ 4) aU (aQ 1) aG H.size (i43_0, dk_upA (dk_upA U.2 1 g43_1) 2 g43_2) G r50 i50_0 g50_1 g50_2 k50) (cwV 0 hts gX5_fewestSearchers_X3_playTillKnown rfl rfl rfl (by decide +kernel) ⟨Nat.le_of_ble_eq_true rfl, Nat.le_of_ble_eq_true rfl⟩) (dk_premV hK hPc hDc (ci := 3) (q0 := 0) rfl rfl) rfl rfl hl.1 rfl (lv_room (Nat.le_of_ble_eq_true rfl)) dX5_fewestSearchers_50 ⟨Nat.zero_le _, Nat.zero_le _⟩) hS (fun q _ h => hFc q h) hFc (fun xr50 u t H1 locs ht hvm hw hB hz1 hk1 hS => ?_)
                obtain ⟨hP1, hD1⟩ := hB
                rw [ht] at hP1
                rw [hw]
                obtain ⟨hP, hD⟩ := va_join (wr := ([0, 1] : List Nat).filterMap (fun i => (wDp cy hQ aQ sdQ Q ++ wNt cy (aQ 1) aG G ++ wSt cy (aQ 4) aU (aQ 1) (i43_0, dk_upA (dk_upA U.2 1 g43_1) 2 g43_2))[i]?)) (w1 := wSt cy (aQ 4) aU (aQ 1) (i50_0, dk_upA (dk_upA U.2 1 g50_1) 2 g50_2) ++ wNt cy (aQ 1) aG G) hP hD [6, 7, 8, 2, 3, 4, 5] [0, 1] rfl rfl (by decide) (by decide) hk1 hFc hP1 hD1
                generalize H1 = H at hP hS ⊢
                have hP : va_P D vwCl (wDp cy hQ aQ sdQ Q ++ wNt cy (aQ 1) aG G ++ wSt cy (aQ 4) aU (aQ 1) (i50_0, dk_upA (dk_upA U.2 1 g50_1) 2 g50_2)) H := hP.sub [0, 1, 5, 6, 7, 8, 2, 3, 4] rfl
                have hD : va_D A (wDp cy hQ aQ sdQ Q ++ wNt cy (aQ 1) aG G ++ wSt cy (aQ 4) aU (aQ 1) (i50_0, dk_upA (dk_upA U.2 1 g50_1) 2 g50_2)) := hD.sub [0, 1, 5, 6, 7, 8, 2, 3, 4] (by decide) rfl
                refine lv_bipush (v := (-9)) hx hb dX5_fewestSearchers_53 (by decide) ?_
                refine dk_ceq (tgt := 72) hx hb dX5_fewestSearchers_55 (by decide) hf (fun hf => ?_) (fun hf => ?_)
                · refine lv_iconst (v := 0) hx hb dX5_fewestSearchers_72 (by decide) ?_
                  refine lv_istore_n (lv' := [(2, .int 0), (0, .ref hQ), (1, .int x1), (3, .int x3)]) hx hb dX5_fewestSearchers_73 rfl hl (by decide) rfl (fun ls hl => ?_)
                  refine lv_iinc (v := x3 + 1) (lv' := [(3, .int (x3 + 1)), (2, .int 0), (0, .ref hQ), (1, .int x1)]) hx hb dX5_fewestSearchers_74 hl (k := 3) rfl rfl (by decide) rfl (fun ls hl => ?_)
                  refine lv_goto (tgt := 11) hx hb dX5_fewestSearchers_77 (by decide) ?_
                  exact ih11 x1 0 (x3 + 1) i50_0 g50_1 g50_2 _ _ _ hP hD hS (lv_sub hl [2, 3, 1, 0] rfl) hf
                · refine lv_aload_n hx hb dX5_fewestSearchers_58 rfl (lv_at hl 0 rfl) ?_
                  refine va_get (D := D) (ci := 5) (v := .ref (aQ 4)) (C := RX5) (T := TX5) (N := 10) hx hb hts iX5_fewestSearchers_X5 hown hK.1 hP 0 rfl rfl 4 (by decide) (hts (.fieldLink RX5 35 "DarkPlace" "trial" "LDarkPlace$Stand;") (List.mem_of_getElem? (i := 2) rfl)) (fun _ h9 => h9) rfl dX5_fewestSearchers_59 ?_
                  obtain ⟨r62, k62, hf⟩ := dk_bind hf
                  refine dk_ri (va_runV (As := []) (rest := []) ⟨hx, hb, hml, hown, hts⟩ (kX3_living l D cy (aQ 4) aU (aQ 1) aG (i50_0, dk_upA (dk_upA U.2 1 g50_1) 2 g50_2) G r62 k62) (cwV 0 hts gX5_fewestSearchers_X3_living rfl rfl rfl (by decide +kernel) ⟨Nat.le_of_ble_eq_true rfl, Nat.le_of_ble_eq_true rfl⟩) (dk_preV hK (hP.sub (ws' := wSt cy (aQ 4) aU (aQ 1) (i50_0, dk_upA (dk_upA U.2 1 g50_1) 2 g50_2) ++ wNt cy (aQ 1) aG G) [6, 7, 8, 2, 3, 4, 5] rfl) (ci := 3) (q0 := 0) rfl rfl) rfl rfl hl.1 rfl (lv_room (Nat.le_of_ble_eq_true rfl)) dX5_fewestSearchers_62 ⟨Nat.zero_le _, Nat.zero_le _⟩) ?_
                  refine dk_ile (tgt := 72) hx hb dX5_fewestSearchers_65 (by decide) hf (fun hf => ?_) (fun hf => ?_)
                  · refine lv_iconst (v := 0) hx hb dX5_fewestSearchers_72 (by decide) ?_
                    refine lv_istore_n (lv' := [(2, .int 0), (0, .ref hQ), (1, .int x1), (3, .int x3)]) hx hb dX5_fewestSearchers_73 rfl hl (by decide) rfl (fun ls hl => ?_)
                    refine lv_iinc (v := x3 + 1) (lv' := [(3, .int (x3 + 1)), (2, .int 0), (0, .ref hQ), (1, .int x1)]) hx hb dX5_fewestSearchers_74 hl (k := 3) rfl rfl (by decide) rfl (fun ls hl => ?_)
                    refine lv_goto (tgt := 11) hx hb dX5_fewestSearchers_77 (by decide) ?_
                    exact ih11 x1 0 (x3 + 1) i50_0 g50_1 g50_2 _ _ _ hP hD hS (lv_sub hl [2, 3, 1, 0] rfl) hf
                  · refine lv_iconst (v := 1) hx hb dX5_fewestSearchers_68 (by decide) ?_
                    refine lv_goto (tgt := 73) hx hb dX5_fewestSearchers_69 (by decide) ?_
                    refine lv_istore_n (lv' := [(2, .int 1), (0, .ref hQ), (1, .int x1), (3, .int x3)]) hx hb dX5_fewestSearchers_73 rfl hl (by decide) rfl (fun ls hl => ?_)
                    refine lv_iinc (v := x3 + 1) (lv' := [(3, .int (x3 + 1)), (2, .int 1), (0, .ref hQ), (1, .int x1)]) hx hb dX5_fewestSearchers_74 hl (k := 3) rfl rfl (by decide) rfl (fun ls hl => ?_)
                    refine lv_goto (tgt := 11) hx hb dX5_fewestSearchers_77 (by decide) ?_
                    exact ih11 x1 1 (x3 + 1) i50_0 g50_1 g50_2 _ _ _ hP hD hS (lv_sub hl [2, 3, 1, 0] rfl) hf
      refine lv_iload_n hx hb dX5_fewestSearchers_2 rfl (lv_at hl 1 rfl) ?_
      refine lv_iconst (v := 4) hx hb dX5_fewestSearchers_3 (by decide) ?_
      refine dk_cgt (tgt := 92) hx hb dX5_fewestSearchers_4 (by decide) hf (fun hf => ?_) (fun hf => ?_)
      · refine lv_bipush (v := (-9)) hx hb dX5_fewestSearchers_92 (by decide) ?_
        have e := Option.some.inj hf
        simp only [Prod.mk.injEq] at e
        obtain ⟨e0, e1, e2, e3⟩ := e
        subst e1
        subst e2
        subst e3
        exact W.iret (v := (-9)) hx hb hr (fun t ht hW => ⟨⟨(-9), (), rfl, e0, by rw [ht]; exact hP, hD⟩, hS.F ht⟩) hS.2.2 dX5_fewestSearchers_94
      · refine lv_iconst (v := 1) hx hb dX5_fewestSearchers_7 (by decide) ?_
        refine lv_istore_n (lv' := [(2, .int 1), (0, .ref hQ), (1, .int x1)]) hx hb dX5_fewestSearchers_8 rfl hl (by decide) rfl (fun ls hl => ?_)
        refine lv_iconst (v := 0) hx hb dX5_fewestSearchers_9 (by decide) ?_
        refine lv_istore_n (lv' := [(3, .int 0), (2, .int 1), (0, .ref hQ), (1, .int x1)]) hx hb dX5_fewestSearchers_10 rfl hl (by decide) rfl (fun ls hl => ?_)
        exact L11 1000 x1 1 0 U_I U_1 U_2 _ _ _ hP hD hS (lv_sub hl [2, 3, 1, 0] rfl) hf
  unfold fX5_fewestSearchers at hf
  refine lv_iconst (v := 1) hx hb dX5_fewestSearchers_0 (by decide) ?_
  refine lv_istore_n (lv' := [(1, .int 1), (0, .ref hQ)]) hx hb dX5_fewestSearchers_1 rfl hl (by decide) rfl (fun ls hl => ?_)
  exact L2 1000 1 U.1 (U.2 1) (U.2 2) _ _ _ hP hD hS (lv_sub hl [1, 0] rfl) hf
theorem iX5_ask_X3 : ∀ w ∈ wsX30, w ∈ wsX5_ask := fun _ h => List.mem_cons_of_mem _ (List.mem_append_left _ (List.mem_append_right _ h))
theorem iX5_ask_X5 : ∀ w ∈ wsX50, w ∈ wsX5_ask := fun _ h => List.mem_cons_of_mem _ (List.mem_append_left _ (List.mem_append_left _ (List.mem_append_right _ h)))
set_option maxHeartbeats 4000000 in
set_option maxRecDepth 100000 in
theorem kX5_ask (l : Launch) (D : va_G) (cy : Nat → ClassId) (hQ : Nat) (aQ : Nat → Nat) (sdQ : Int64) (aT : Nat → Nat) (aG : Nat → Nat) (aU : Nat → Nat) (sz : Nat) (Q : dk_O) (T : dk_O) (G : dk_O) (U : dk_O) (v1 : Int32) (r : Int32) (oU_I : (Nat → Int32)) (oU_1 : (Nat → Int32)) (oU_2 : (Nat → Int32)) (hf : fX5_ask Q T G U v1 = some (r, oU_I, oU_1, oU_2)) : dk_MuI l yX5_ask wsX5_ask ({ frames := 6, cells := 0, slots := 0, locals := 143 }) D cy [.ref hQ, .int v1] (wDp cy hQ aQ sdQ Q ++ wSt cy (aQ 3) aT (aQ 1) T ++ wNt cy (aQ 1) aG G ++ wSt cy (aQ 4) aU (aQ 1) U) (wDp cy hQ aQ sdQ Q ++ wSt cy (aQ 3) aT (aQ 1) T ++ wNt cy (aQ 1) aG G ++ wSt cy (aQ 4) aU (aQ 1) (oU_I, dk_upA (dk_upA U.2 1 oU_1) 2 oU_2)) sz r := by
  refine Met.ofW (cc := cX5_ask) (maxL := 2) (ret := (some .int)) (by decide) rfl ?_
  intro p e s m args below meth c s₁ B hml hv
  obtain ⟨rfl, hsz, hP, hK, hD0⟩ := hv
  have hx := B.exec
  have hb := B.bytes
  have hr := B.returns
  have hts := atoms_spec (ws := wsX5_ask) B.pre
  have hown : s.vm.findClass RX5 = some m.cls := findClass_of_methodNamed B.named
  have hlocks := B.notSynchronized
  subst hsz
  have hD := hD0.self (sz := s.heap.size)
  generalize hAe : va_A (wDp cy hQ aQ sdQ Q ++ wSt cy (aQ 3) aT (aQ 1) T ++ wNt cy (aQ 1) aG G ++ wSt cy (aQ 4) aU (aQ 1) U) s.heap.size = A at hD ⊢
  have hA : ∀ q : Nat, s.heap.size ≤ q → A q := fun q h => by rw [← hAe]; exact Or.inr h
  have hS : va_S A s.heap s.heap [] := va_S.rf
  have hl := lv_entry ([.ref hQ, .int v1]) (n := 2) (Nat.le_of_ble_eq_true rfl)
  rw [lg_entry_eq]
  generalize (lg_sl ([.ref hQ, .int v1]) ++ List.replicate (2 - (lg_sl ([.ref hQ, .int v1])).length) Slot.unset).toArray = ls at hl ⊢
  have hl : lv_has ls 2 [(0, .ref hQ), (1, .int v1)] := hl
  unfold fX5_ask at hf
  refine lv_iload_n hx hb dX5_ask_0 rfl (lv_at hl 1 rfl) ?_
  by_cases q1_0 : v1 = 0
  · have hf := dk_pos hf q1_0
    refine lv_tableIn (tgt := 48) hx hb dX5_ask_1 (by rw [q1_0]; decide) (by rw [q1_0]; decide) (by rw [q1_0]; rfl) (by decide) ?_
    refine lv_aload_n hx hb dX5_ask_48 rfl (lv_at hl 0 rfl) ?_
    refine va_get (D := D) (ci := 5) (v := .ref (aQ 3)) (C := RX5) (T := TX5) (N := 10) hx hb hts iX5_ask_X5 hown hK.1 hP 0 rfl rfl 3 (by decide) (hts (.fieldLink RX5 31 "DarkPlace" "now" "LDarkPlace$Stand;") (List.mem_of_getElem? (i := 1) rfl)) (fun _ h9 => h9) rfl dX5_ask_49 ?_
    obtain ⟨r52, k52, hf⟩ := dk_bind hf
    refine dk_ri (va_runV (As := []) (rest := []) ⟨hx, hb, hml, hown, hts⟩ (kX3_living l D cy (aQ 3) aT (aQ 1) aG T G r52 k52) (cwV 0 hts gX5_ask_X3_living rfl rfl rfl (by decide +kernel) ⟨Nat.le_of_ble_eq_true rfl, Nat.le_of_ble_eq_true rfl⟩) (dk_preV hK (hP.sub (ws' := wSt cy (aQ 3) aT (aQ 1) T ++ wNt cy (aQ 1) aG G) [2, 3, 4, 5, 6, 7, 8] rfl) (ci := 3) (q0 := 0) rfl rfl) rfl rfl hl.1 rfl (lv_room (Nat.le_of_ble_eq_true rfl)) dX5_ask_52 ⟨Nat.zero_le _, Nat.zero_le _⟩) ?_
    have e := Option.some.inj hf
    simp only [Prod.mk.injEq] at e
    obtain ⟨e0, e1, e2, e3⟩ := e
    subst e1
    subst e2
    subst e3
    exact W.iret (v := r52) hx hb hr (fun t ht hW => ⟨⟨r52, (), rfl, e0, by rw [ht]; exact hP, hD⟩, hS.F ht⟩) hS.2.2 dX5_ask_55
  have hf := dk_neg hf q1_0
  by_cases q1_1 : v1 = 1
  · have hf := dk_pos hf q1_1
    refine lv_tableIn (tgt := 56) hx hb dX5_ask_1 (by rw [q1_1]; decide) (by rw [q1_1]; decide) (by rw [q1_1]; rfl) (by decide) ?_
    refine lv_aload_n hx hb dX5_ask_56 rfl (lv_at hl 0 rfl) ?_
    refine va_get (D := D) (ci := 5) (v := .ref (aQ 3)) (C := RX5) (T := TX5) (N := 10) hx hb hts iX5_ask_X5 hown hK.1 hP 0 rfl rfl 3 (by decide) (hts (.fieldLink RX5 31 "DarkPlace" "now" "LDarkPlace$Stand;") (List.mem_of_getElem? (i := 1) rfl)) (fun _ h9 => h9) rfl dX5_ask_57 ?_
    refine va_getN (D := D) (ci := 3) (v := .int (T.1 5)) (C := RX3) (T := TX3) (N := 9) hx hb hts iX5_ask_X3 hown hK.1 hP 2 rfl rfl 5 (by decide) (va_Nw.use rfl (hK.2 (.fieldLinkNest "DarkPlace" 168 "DarkPlace$Stand" "moves" "I" "DarkPlace") (List.mem_of_getElem? (i := 12) rfl))) (fun _ h9 => h9) rfl dX5_ask_60 ?_
    have e := Option.some.inj hf
    simp only [Prod.mk.injEq] at e
    obtain ⟨e0, e1, e2, e3⟩ := e
    subst e1
    subst e2
    subst e3
    exact W.iret (v := T.1 5) hx hb hr (fun t ht hW => ⟨⟨T.1 5, (), rfl, e0, by rw [ht]; exact hP, hD⟩, hS.F ht⟩) hS.2.2 dX5_ask_63
  have hf := dk_neg hf q1_1
  by_cases q1_2 : v1 = 2
  · have hf := dk_pos hf q1_2
    refine lv_tableIn (tgt := 64) hx hb dX5_ask_1 (by rw [q1_2]; decide) (by rw [q1_2]; decide) (by rw [q1_2]; rfl) (by decide) ?_
    refine lv_aload_n hx hb dX5_ask_64 rfl (lv_at hl 0 rfl) ?_
    refine va_get (D := D) (ci := 5) (v := .ref (aQ 3)) (C := RX5) (T := TX5) (N := 10) hx hb hts iX5_ask_X5 hown hK.1 hP 0 rfl rfl 3 (by decide) (hts (.fieldLink RX5 31 "DarkPlace" "now" "LDarkPlace$Stand;") (List.mem_of_getElem? (i := 1) rfl)) (fun _ h9 => h9) rfl dX5_ask_65 ?_
    refine va_getN (D := D) (ci := 3) (v := .int (T.1 8)) (C := RX3) (T := TX3) (N := 9) hx hb hts iX5_ask_X3 hown hK.1 hP 2 rfl rfl 8 (by decide) (va_Nw.use rfl (hK.2 (.fieldLinkNest "DarkPlace" 171 "DarkPlace$Stand" "visited" "I" "DarkPlace") (List.mem_of_getElem? (i := 13) rfl))) (fun _ h9 => h9) rfl dX5_ask_68 ?_
    have e := Option.some.inj hf
    simp only [Prod.mk.injEq] at e
    obtain ⟨e0, e1, e2, e3⟩ := e
    subst e1
    subst e2
    subst e3
    exact W.iret (v := T.1 8) hx hb hr (fun t ht hW => ⟨⟨T.1 8, (), rfl, e0, by rw [ht]; exact hP, hD⟩, hS.F ht⟩) hS.2.2 dX5_ask_71
  have hf := dk_neg hf q1_2
  by_cases q1_3 : v1 = 3
  · have hf := dk_pos hf q1_3
    refine lv_tableIn (tgt := 72) hx hb dX5_ask_1 (by rw [q1_3]; decide) (by rw [q1_3]; decide) (by rw [q1_3]; rfl) (by decide) ?_
    refine lv_aload_n hx hb dX5_ask_72 rfl (lv_at hl 0 rfl) ?_
    refine va_get (D := D) (ci := 5) (v := .ref (aQ 3)) (C := RX5) (T := TX5) (N := 10) hx hb hts iX5_ask_X5 hown hK.1 hP 0 rfl rfl 3 (by decide) (hts (.fieldLink RX5 31 "DarkPlace" "now" "LDarkPlace$Stand;") (List.mem_of_getElem? (i := 1) rfl)) (fun _ h9 => h9) rfl dX5_ask_73 ?_
    obtain ⟨r76, k76, hf⟩ := dk_bind hf
    refine dk_ri (va_runV (As := []) (rest := []) ⟨hx, hb, hml, hown, hts⟩ (kX3_mayBe l D cy (aQ 3) aT (aQ 1) aG T G r76 k76) (cwV 0 hts gX5_ask_X3_mayBe rfl rfl rfl (by decide +kernel) ⟨Nat.le_of_ble_eq_true rfl, Nat.le_of_ble_eq_true rfl⟩) (dk_preV hK (hP.sub (ws' := wSt cy (aQ 3) aT (aQ 1) T ++ wNt cy (aQ 1) aG G) [2, 3, 4, 5, 6, 7, 8] rfl) (ci := 3) (q0 := 0) rfl rfl) rfl rfl hl.1 rfl (lv_room (Nat.le_of_ble_eq_true rfl)) dX5_ask_76 ⟨Nat.zero_le _, Nat.zero_le _⟩) ?_
    have e := Option.some.inj hf
    simp only [Prod.mk.injEq] at e
    obtain ⟨e0, e1, e2, e3⟩ := e
    subst e1
    subst e2
    subst e3
    exact W.iret (v := r76) hx hb hr (fun t ht hW => ⟨⟨r76, (), rfl, e0, by rw [ht]; exact hP, hD⟩, hS.F ht⟩) hS.2.2 dX5_ask_79
  have hf := dk_neg hf q1_3
  by_cases q1_4 : v1 = 4
  · have hf := dk_pos hf q1_4
    refine lv_tableIn (tgt := 80) hx hb dX5_ask_1 (by rw [q1_4]; decide) (by rw [q1_4]; decide) (by rw [q1_4]; rfl) (by decide) ?_
    refine lv_aload_n hx hb dX5_ask_80 rfl (lv_at hl 0 rfl) ?_
    refine va_get (D := D) (ci := 5) (v := .ref (aQ 3)) (C := RX5) (T := TX5) (N := 10) hx hb hts iX5_ask_X5 hown hK.1 hP 0 rfl rfl 3 (by decide) (hts (.fieldLink RX5 31 "DarkPlace" "now" "LDarkPlace$Stand;") (List.mem_of_getElem? (i := 1) rfl)) (fun _ h9 => h9) rfl dX5_ask_81 ?_
    obtain ⟨r84, k84, hf⟩ := dk_bind hf
    refine dk_ri (va_runV (As := []) (rest := []) ⟨hx, hb, hml, hown, hts⟩ (kX3_isKnown l D cy (aQ 3) aT (aQ 1) aG T G r84 k84) (cwV 0 hts gX5_ask_X3_isKnown rfl rfl rfl (by decide +kernel) ⟨Nat.le_of_ble_eq_true rfl, Nat.le_of_ble_eq_true rfl⟩) (dk_preV hK (hP.sub (ws' := wSt cy (aQ 3) aT (aQ 1) T ++ wNt cy (aQ 1) aG G) [2, 3, 4, 5, 6, 7, 8] rfl) (ci := 3) (q0 := 0) rfl rfl) rfl rfl hl.1 rfl (lv_room (Nat.le_of_ble_eq_true rfl)) dX5_ask_84 ⟨Nat.zero_le _, Nat.zero_le _⟩) ?_
    refine dk_ieq (tgt := 94) hx hb dX5_ask_87 (by decide) hf (fun hf => ?_) (fun hf => ?_)
    · refine lv_iconst (v := 0) hx hb dX5_ask_94 (by decide) ?_
      have e := Option.some.inj hf
      simp only [Prod.mk.injEq] at e
      obtain ⟨e0, e1, e2, e3⟩ := e
      subst e1
      subst e2
      subst e3
      exact W.iret (v := 0) hx hb hr (fun t ht hW => ⟨⟨0, (), rfl, e0, by rw [ht]; exact hP, hD⟩, hS.F ht⟩) hS.2.2 dX5_ask_95
    · refine lv_iconst (v := 1) hx hb dX5_ask_90 (by decide) ?_
      refine lv_goto (tgt := 95) hx hb dX5_ask_91 (by decide) ?_
      have e := Option.some.inj hf
      simp only [Prod.mk.injEq] at e
      obtain ⟨e0, e1, e2, e3⟩ := e
      subst e1
      subst e2
      subst e3
      exact W.iret (v := 1) hx hb hr (fun t ht hW => ⟨⟨1, (), rfl, e0, by rw [ht]; exact hP, hD⟩, hS.F ht⟩) hS.2.2 dX5_ask_95
  have hf := dk_neg hf q1_4
  by_cases q1_5 : v1 = 5
  · have hf := dk_pos hf q1_5
    refine lv_tableIn (tgt := 96) hx hb dX5_ask_1 (by rw [q1_5]; decide) (by rw [q1_5]; decide) (by rw [q1_5]; rfl) (by decide) ?_
    refine lv_aload_n hx hb dX5_ask_96 rfl (lv_at hl 0 rfl) ?_
    obtain ⟨⟨r97, i97_0, g97_1, g97_2⟩, k97, hf⟩ := dk_bind hf
    dsimp only at hf
    have hPc := hP.sub (ws' := wDp cy hQ aQ sdQ Q ++ wSt cy (aQ 3) aT (aQ 1) T ++ wNt cy (aQ 1) aG G ++ wSt cy (aQ 4) aU (aQ 1) U) [0, 1, 2, 3, 4, 5, 6, 7, 8, 9, 10, 11] rfl
    have hDc := hD.sub (ws' := wDp cy hQ aQ sdQ Q ++ wSt cy (aQ 3) aT (aQ 1) T ++ wNt cy (aQ 1) aG G ++ wSt cy (aQ 4) aU (aQ 1) U) [0, 1, 2, 3, 4, 5, 6, 7, 8, 9, 10, 11] (by decide) rfl
    have hFc := va_free (wc := wDp cy hQ aQ sdQ Q ++ wSt cy (aQ 3) aT (aQ 1) T ++ wNt cy (aQ 1) aG G ++ wSt cy (aQ 4) aU (aQ 1) U) hD hS hA [0, 1, 2, 3, 4, 5, 6, 7, 8, 9, 10, 11] rfl
    refine va_calli (va_runV (As := []) (rest := []) ⟨hx, hb, hml, hown, hts⟩ (kX5_worstPlace l D cy hQ aQ sdQ aT aG aU s.heap.size Q T G U r97 i97_0 g97_1 g97_2 k97) (cwV 0 hts gX5_ask_X5_worstPlace rfl rfl rfl (by decide +kernel) ⟨Nat.le_of_ble_eq_true rfl, Nat.le_of_ble_eq_true rfl⟩) (dk_premV hK hPc hDc (ci := 5) (q0 := 0) rfl rfl) rfl rfl hl.1 rfl (lv_room (Nat.le_of_ble_eq_true rfl)) dX5_ask_97 ⟨Nat.zero_le _, Nat.zero_le _⟩) hS (fun q _ h => hFc q h) hFc (fun xr97 u t H1 locs ht hvm hw hB hz1 hk1 hS => ?_)
    obtain ⟨hP1, hD1⟩ := hB
    rw [ht] at hP1
    rw [hw]
    obtain ⟨hP, hD⟩ := va_join (wr := ([] : List Nat).filterMap (fun i => (wDp cy hQ aQ sdQ Q ++ wSt cy (aQ 3) aT (aQ 1) T ++ wNt cy (aQ 1) aG G ++ wSt cy (aQ 4) aU (aQ 1) U)[i]?)) (w1 := wDp cy hQ aQ sdQ Q ++ wSt cy (aQ 3) aT (aQ 1) T ++ wNt cy (aQ 1) aG G ++ wSt cy (aQ 4) aU (aQ 1) (i97_0, dk_upA (dk_upA U.2 1 g97_1) 2 g97_2)) hP hD [0, 1, 2, 3, 4, 5, 6, 7, 8, 9, 10, 11] [] rfl rfl (by decide) (by decide) hk1 hFc hP1 hD1
    generalize H1 = H at hP hS ⊢
    have hP : va_P D vwCl (wDp cy hQ aQ sdQ Q ++ wSt cy (aQ 3) aT (aQ 1) T ++ wNt cy (aQ 1) aG G ++ wSt cy (aQ 4) aU (aQ 1) (i97_0, dk_upA (dk_upA U.2 1 g97_1) 2 g97_2)) H := hP.sub [0, 1, 2, 3, 4, 5, 6, 7, 8, 9, 10, 11] rfl
    have hD : va_D A (wDp cy hQ aQ sdQ Q ++ wSt cy (aQ 3) aT (aQ 1) T ++ wNt cy (aQ 1) aG G ++ wSt cy (aQ 4) aU (aQ 1) (i97_0, dk_upA (dk_upA U.2 1 g97_1) 2 g97_2)) := hD.sub [0, 1, 2, 3, 4, 5, 6, 7, 8, 9, 10, 11] (by decide) rfl
    have e := Option.some.inj hf
    simp only [Prod.mk.injEq] at e
    obtain ⟨e0, e1, e2, e3⟩ := e
    subst e1
    subst e2
    subst e3
    exact W.iret (v := r97) hx hb hr (fun t ht hW => ⟨⟨r97, (), rfl, e0, by rw [ht]; exact hP, hD⟩, hS.F ht⟩) hS.2.2 dX5_ask_100
  have hf := dk_neg hf q1_5
  by_cases q1_6 : v1 = 6
  · have hf := dk_pos hf q1_6
    refine lv_tableIn (tgt := 101) hx hb dX5_ask_1 (by rw [q1_6]; decide) (by rw [q1_6]; decide) (by rw [q1_6]; rfl) (by decide) ?_
    refine lv_aload_n hx hb dX5_ask_101 rfl (lv_at hl 0 rfl) ?_
    obtain ⟨⟨r102, i102_0, g102_1, g102_2⟩, k102, hf⟩ := dk_bind hf
    dsimp only at hf
    have hPc := hP.sub (ws' := wDp cy hQ aQ sdQ Q ++ wNt cy (aQ 1) aG G ++ wSt cy (aQ 4) aU (aQ 1) U) [0, 1, 5, 6, 7, 8, 9, 10, 11] rfl
    have hDc := hD.sub (ws' := wDp cy hQ aQ sdQ Q ++ wNt cy (aQ 1) aG G ++ wSt cy (aQ 4) aU (aQ 1) U) [0, 1, 5, 6, 7, 8, 9, 10, 11] (by decide) rfl
    have hFc := va_free (wc := wDp cy hQ aQ sdQ Q ++ wNt cy (aQ 1) aG G ++ wSt cy (aQ 4) aU (aQ 1) U) hD hS hA [0, 1, 5, 6, 7, 8, 9, 10, 11] rfl
    refine va_calli (va_runV (As := []) (rest := []) ⟨hx, hb, hml, hown, hts⟩ (kX5_fewestSearchers l D cy hQ aQ sdQ aG aU s.heap.size Q G U r102 i102_0 g102_1 g102_2 k102) (cwV 0 hts gX5_ask_X5_fewestSearchers rfl rfl rfl (by decide +kernel) ⟨Nat.le_of_ble_eq_true rfl, Nat.le_of_ble_eq_true rfl⟩) (dk_premV hK hPc hDc (ci := 5) (q0 := 0) rfl rfl) rfl rfl hl.1 rfl (lv_room (Nat.le_of_ble_eq_true rfl)) dX5_ask_102 ⟨Nat.zero_le _, Nat.zero_le _⟩) hS (fun q _ h => hFc q h) hFc (fun xr102 u t H1 locs ht hvm hw hB hz1 hk1 hS => ?_)
    obtain ⟨hP1, hD1⟩ := hB
    rw [ht] at hP1
    rw [hw]
    obtain ⟨hP, hD⟩ := va_join (wr := ([2, 3, 4] : List Nat).filterMap (fun i => (wDp cy hQ aQ sdQ Q ++ wSt cy (aQ 3) aT (aQ 1) T ++ wNt cy (aQ 1) aG G ++ wSt cy (aQ 4) aU (aQ 1) U)[i]?)) (w1 := wDp cy hQ aQ sdQ Q ++ wNt cy (aQ 1) aG G ++ wSt cy (aQ 4) aU (aQ 1) (i102_0, dk_upA (dk_upA U.2 1 g102_1) 2 g102_2)) hP hD [0, 1, 5, 6, 7, 8, 9, 10, 11] [2, 3, 4] rfl rfl (by decide) (by decide) hk1 hFc hP1 hD1
    generalize H1 = H at hP hS ⊢
    have hP : va_P D vwCl (wDp cy hQ aQ sdQ Q ++ wSt cy (aQ 3) aT (aQ 1) T ++ wNt cy (aQ 1) aG G ++ wSt cy (aQ 4) aU (aQ 1) (i102_0, dk_upA (dk_upA U.2 1 g102_1) 2 g102_2)) H := hP.sub [3, 4, 0, 1, 2, 5, 6, 7, 8, 9, 10, 11] rfl
    have hD : va_D A (wDp cy hQ aQ sdQ Q ++ wSt cy (aQ 3) aT (aQ 1) T ++ wNt cy (aQ 1) aG G ++ wSt cy (aQ 4) aU (aQ 1) (i102_0, dk_upA (dk_upA U.2 1 g102_1) 2 g102_2)) := hD.sub [3, 4, 0, 1, 2, 5, 6, 7, 8, 9, 10, 11] (by decide) rfl
    have e := Option.some.inj hf
    simp only [Prod.mk.injEq] at e
    obtain ⟨e0, e1, e2, e3⟩ := e
    subst e1
    subst e2
    subst e3
    exact W.iret (v := r102) hx hb hr (fun t ht hW => ⟨⟨r102, (), rfl, e0, by rw [ht]; exact hP, hD⟩, hS.F ht⟩) hS.2.2 dX5_ask_105
  have hf := dk_neg hf q1_6
  by_cases q1_7 : v1 = 7
  · have hf := dk_pos hf q1_7
    refine lv_tableIn (tgt := 106) hx hb dX5_ask_1 (by rw [q1_7]; decide) (by rw [q1_7]; decide) (by rw [q1_7]; rfl) (by decide) ?_
    refine lv_aload_n hx hb dX5_ask_106 rfl (lv_at hl 0 rfl) ?_
    refine va_get (D := D) (ci := 5) (v := .ref (aQ 3)) (C := RX5) (T := TX5) (N := 10) hx hb hts iX5_ask_X5 hown hK.1 hP 0 rfl rfl 3 (by decide) (hts (.fieldLink RX5 31 "DarkPlace" "now" "LDarkPlace$Stand;") (List.mem_of_getElem? (i := 1) rfl)) (fun _ h9 => h9) rfl dX5_ask_107 ?_
    obtain ⟨r110, k110, hf⟩ := dk_bind hf
    refine dk_ri (va_runV (As := []) (rest := []) ⟨hx, hb, hml, hown, hts⟩ (kX3_fated l D cy (aQ 3) aT (aQ 1) aG T G r110 k110) (cwV 0 hts gX5_ask_X3_fated rfl rfl rfl (by decide +kernel) ⟨Nat.le_of_ble_eq_true rfl, Nat.le_of_ble_eq_true rfl⟩) (dk_preV hK (hP.sub (ws' := wSt cy (aQ 3) aT (aQ 1) T ++ wNt cy (aQ 1) aG G) [2, 3, 4, 5, 6, 7, 8] rfl) (ci := 3) (q0 := 0) rfl rfl) rfl rfl hl.1 rfl (lv_room (Nat.le_of_ble_eq_true rfl)) dX5_ask_110 ⟨Nat.zero_le _, Nat.zero_le _⟩) ?_
    have e := Option.some.inj hf
    simp only [Prod.mk.injEq] at e
    obtain ⟨e0, e1, e2, e3⟩ := e
    subst e1
    subst e2
    subst e3
    exact W.iret (v := r110) hx hb hr (fun t ht hW => ⟨⟨r110, (), rfl, e0, by rw [ht]; exact hP, hD⟩, hS.F ht⟩) hS.2.2 dX5_ask_113
  have hf := dk_neg hf q1_7
  refine lv_tableOut (tgt := 114) hx hb dX5_ask_1 (dk_tabOut 0 8 (by decide) (fun k h1 h2 => by
    rcases (show k = 0 ∨ k = 1 ∨ k = 2 ∨ k = 3 ∨ k = 4 ∨ k = 5 ∨ k = 6 ∨ k = 7 by omega) with rfl | rfl | rfl | rfl | rfl | rfl | rfl | rfl
    · exact q1_0
    · exact q1_1
    · exact q1_2
    · exact q1_3
    · exact q1_4
    · exact q1_5
    · exact q1_6
    · exact q1_7)) (by decide) ?_
  refine lv_bipush (v := (-2)) hx hb dX5_ask_114 (by decide) ?_
  have e := Option.some.inj hf
  simp only [Prod.mk.injEq] at e
  obtain ⟨e0, e1, e2, e3⟩ := e
  subst e1
  subst e2
  subst e3
  exact W.iret (v := (-2)) hx hb hr (fun t ht hW => ⟨⟨(-2), (), rfl, e0, by rw [ht]; exact hP, hD⟩, hS.F ht⟩) hS.2.2 dX5_ask_116
theorem iX5_fate_X3 : ∀ w ∈ wsX30, w ∈ wsX5_fate := fun _ h => List.mem_cons_of_mem _ (List.mem_append_left _ (List.mem_append_right _ h))
theorem iX5_fate_X5 : ∀ w ∈ wsX50, w ∈ wsX5_fate := fun _ h => List.mem_cons_of_mem _ (List.mem_append_left _ (List.mem_append_left _ (List.mem_append_right _ h)))
set_option maxHeartbeats 4000000 in
set_option maxRecDepth 100000 in
theorem kX5_fate (l : Launch) (D : va_G) (cy : Nat → ClassId) (hQ : Nat) (aQ : Nat → Nat) (sdQ : Int64) (aT : Nat → Nat) (aG : Nat → Nat) (aU : Nat → Nat) (sz : Nat) (Q : dk_O) (T : dk_O) (G : dk_O) (U : dk_O) (v1 : Int32) (v2 : Int32) (r : Int32) (oU_I : (Nat → Int32)) (oU_1 : (Nat → Int32)) (oU_2 : (Nat → Int32)) (hf : fX5_fate Q T G U v1 v2 = some (r, oU_I, oU_1, oU_2)) : dk_MuI l yX5_fate wsX5_fate ({ frames := 5, cells := 0, slots := 0, locals := 117 }) D cy [.ref hQ, .int v1, .int v2] (wDp cy hQ aQ sdQ Q ++ wSt cy (aQ 3) aT (aQ 1) T ++ wNt cy (aQ 1) aG G ++ wSt cy (aQ 4) aU (aQ 1) U) (wDp cy hQ aQ sdQ Q ++ wSt cy (aQ 3) aT (aQ 1) T ++ wNt cy (aQ 1) aG G ++ wSt cy (aQ 4) aU (aQ 1) (oU_I, dk_upA (dk_upA U.2 1 oU_1) 2 oU_2)) sz r := by
  refine Met.ofW (cc := cX5_fate) (maxL := 4) (ret := (some .int)) (by decide) rfl ?_
  intro p e s m args below meth c s₁ B hml hv
  obtain ⟨rfl, hsz, hP, hK, hD0⟩ := hv
  have hx := B.exec
  have hb := B.bytes
  have hr := B.returns
  have hts := atoms_spec (ws := wsX5_fate) B.pre
  have hown : s.vm.findClass RX5 = some m.cls := findClass_of_methodNamed B.named
  have hlocks := B.notSynchronized
  subst hsz
  have hD := hD0.self (sz := s.heap.size)
  generalize hAe : va_A (wDp cy hQ aQ sdQ Q ++ wSt cy (aQ 3) aT (aQ 1) T ++ wNt cy (aQ 1) aG G ++ wSt cy (aQ 4) aU (aQ 1) U) s.heap.size = A at hD ⊢
  have hA : ∀ q : Nat, s.heap.size ≤ q → A q := fun q h => by rw [← hAe]; exact Or.inr h
  have hS : va_S A s.heap s.heap [] := va_S.rf
  have hl := lv_entry ([.ref hQ, .int v1, .int v2]) (n := 4) (Nat.le_of_ble_eq_true rfl)
  rw [lg_entry_eq]
  generalize (lg_sl ([.ref hQ, .int v1, .int v2]) ++ List.replicate (4 - (lg_sl ([.ref hQ, .int v1, .int v2])).length) Slot.unset).toArray = ls at hl ⊢
  have hl : lv_has ls 4 [(0, .ref hQ), (1, .int v1), (2, .int v2)] := hl
  unfold fX5_fate at hf
  refine lv_aload_n hx hb dX5_fate_0 rfl (lv_at hl 0 rfl) ?_
  refine va_get (D := D) (ci := 5) (v := .ref (aQ 1)) (C := RX5) (T := TX5) (N := 10) hx hb hts iX5_fate_X5 hown hK.1 hP 0 rfl rfl 1 (by decide) (hts (.fieldLink RX5 19 "DarkPlace" "ground" "LDarkPlace$Net;") (List.mem_of_getElem? (i := 1) rfl)) (fun _ h9 => h9) rfl dX5_fate_1 ?_
  refine lv_iload_n hx hb dX5_fate_4 rfl (lv_at hl 1 rfl) ?_
  obtain ⟨r5, k5, hf⟩ := dk_bind hf
  refine dk_ri (va_runV (As := [.int v1]) (rest := []) ⟨hx, hb, hml, hown, hts⟩ (kX1_isPlace l D cy (aQ 1) aG G v1 r5 k5) (cwV 1 hts gX5_fate_X1_isPlace rfl rfl rfl (by decide +kernel) ⟨Nat.le_of_ble_eq_true rfl, Nat.le_of_ble_eq_true rfl⟩) (dk_preV hK (hP.sub (ws' := wNt cy (aQ 1) aG G) [5, 6, 7, 8] rfl) (ci := 1) (q0 := 0) rfl rfl) rfl rfl hl.1 rfl (lv_room (Nat.le_of_ble_eq_true rfl)) dX5_fate_5 ⟨Nat.zero_le _, Nat.zero_le _⟩) ?_
  refine dk_ine (tgt := 13) hx hb dX5_fate_8 (by decide) hf (fun hf => ?_) (fun hf => ?_)
  · refine lv_iload_n hx hb dX5_fate_13 rfl (lv_at hl 2 rfl) ?_
    refine dk_ilt (tgt := 22) hx hb dX5_fate_14 (by decide) hf (fun hf => ?_) (fun hf => ?_)
    · refine lv_bipush (v := (-2)) hx hb dX5_fate_22 (by decide) ?_
      have e := Option.some.inj hf
      simp only [Prod.mk.injEq] at e
      obtain ⟨e0, e1, e2, e3⟩ := e
      subst e1
      subst e2
      subst e3
      exact W.iret (v := (-2)) hx hb hr (fun t ht hW => ⟨⟨(-2), (), rfl, e0, by rw [ht]; exact hP, hD⟩, hS.F ht⟩) hS.2.2 dX5_fate_24
    · refine lv_iload_n hx hb dX5_fate_17 rfl (lv_at hl 2 rfl) ?_
      refine lv_iconst (v := 2) hx hb dX5_fate_18 (by decide) ?_
      refine dk_cle (tgt := 25) hx hb dX5_fate_19 (by decide) hf (fun hf => ?_) (fun hf => ?_)
      · refine lv_aload_n hx hb dX5_fate_25 rfl (lv_at hl 0 rfl) ?_
        refine va_get (D := D) (ci := 5) (v := .ref (aQ 3)) (C := RX5) (T := TX5) (N := 10) hx hb hts iX5_fate_X5 hown hK.1 hP 0 rfl rfl 3 (by decide) (hts (.fieldLink RX5 31 "DarkPlace" "now" "LDarkPlace$Stand;") (List.mem_of_getElem? (i := 2) rfl)) (fun _ h9 => h9) rfl dX5_fate_26 ?_
        obtain ⟨r29, k29, hf⟩ := dk_bind hf
        refine dk_ri (va_runV (As := []) (rest := []) ⟨hx, hb, hml, hown, hts⟩ (kX3_fated l D cy (aQ 3) aT (aQ 1) aG T G r29 k29) (cwV 0 hts gX5_fate_X3_fated rfl rfl rfl (by decide +kernel) ⟨Nat.le_of_ble_eq_true rfl, Nat.le_of_ble_eq_true rfl⟩) (dk_preV hK (hP.sub (ws' := wSt cy (aQ 3) aT (aQ 1) T ++ wNt cy (aQ 1) aG G) [2, 3, 4, 5, 6, 7, 8] rfl) (ci := 3) (q0 := 0) rfl rfl) rfl rfl hl.1 rfl (lv_room (Nat.le_of_ble_eq_true rfl)) dX5_fate_29 ⟨Nat.zero_le _, Nat.zero_le _⟩) ?_
        refine lv_iload_n hx hb dX5_fate_32 rfl (lv_at hl 1 rfl) ?_
        obtain ⟨r33, k33, hf⟩ := dk_bind hf
        refine dk_ri (va_runS (As := [.int r29, .int v1]) (rest := []) ⟨hx, hb, hml, hown, hts⟩ (kX5_holds l D cy r29 v1 r33 k33) (va_cwS 2 hts gX5_fate_X5_holds rfl rfl rfl (by decide +kernel) ⟨Nat.le_of_ble_eq_true rfl, Nat.le_of_ble_eq_true rfl⟩) (dk_preS hK (hP.sub (ws' := []) [] rfl)) rfl rfl hl.1 rfl (lv_room (Nat.le_of_ble_eq_true rfl)) dX5_fate_33 ⟨Nat.zero_le _, Nat.zero_le _⟩) ?_
        refine dk_ine (tgt := 42) hx hb dX5_fate_36 (by decide) hf (fun hf => ?_) (fun hf => ?_)
        · refine lv_aload_n hx hb dX5_fate_42 rfl (lv_at hl 0 rfl) ?_
          refine va_get (D := D) (ci := 5) (v := .ref (aQ 4)) (C := RX5) (T := TX5) (N := 10) hx hb hts iX5_fate_X5 hown hK.1 hP 0 rfl rfl 4 (by decide) (hts (.fieldLink RX5 35 "DarkPlace" "trial" "LDarkPlace$Stand;") (List.mem_of_getElem? (i := 3) rfl)) (fun _ h9 => h9) rfl dX5_fate_43 ?_
          refine lv_aload_n hx hb dX5_fate_46 rfl (lv_at hl 0 rfl) ?_
          refine va_get (D := D) (ci := 5) (v := .ref (aQ 3)) (C := RX5) (T := TX5) (N := 10) hx hb hts iX5_fate_X5 hown hK.1 hP 0 rfl rfl 3 (by decide) (hts (.fieldLink RX5 31 "DarkPlace" "now" "LDarkPlace$Stand;") (List.mem_of_getElem? (i := 2) rfl)) (fun _ h9 => h9) rfl dX5_fate_47 ?_
          refine lv_iload_n hx hb dX5_fate_50 rfl (lv_at hl 1 rfl) ?_
          obtain ⟨⟨i51_0, g51_1, g51_2⟩, k51, hf⟩ := dk_bind hf
          dsimp only at hf
          have hPc := hP.sub (ws' := wSt cy (aQ 4) aU (aQ 1) U ++ wSt cy (aQ 3) aT (aQ 1) T) [9, 10, 11, 2, 3, 4] rfl
          have hDc := hD.sub (ws' := wSt cy (aQ 4) aU (aQ 1) U ++ wSt cy (aQ 3) aT (aQ 1) T) [9, 10, 11, 2, 3, 4] (by decide) rfl
          have hFc := va_free (wc := wSt cy (aQ 4) aU (aQ 1) U ++ wSt cy (aQ 3) aT (aQ 1) T) hD hS hA [9, 10, 11, 2, 3, 4] rfl
          refine va_callv (va_runV (As := [.ref (aQ 3), .int v1]) (rest := []) ⟨hx, hb, hml, hown, hts⟩ (kX3_suppose l D cy (aQ 4) aU (aQ 1) (aQ 3) aT (aQ 1) s.heap.size U T v1 i51_0 g51_1 g51_2 k51) (cwV 2 hts gX5_fate_X3_suppose rfl rfl rfl (by decide +kernel) ⟨Nat.le_of_ble_eq_true rfl, Nat.le_of_ble_eq_true rfl⟩) (dk_premV hK hPc hDc (ci := 3) (q0 := 0) rfl rfl) rfl rfl hl.1 rfl (lv_room (Nat.le_of_ble_eq_true rfl)) dX5_fate_51 ⟨Nat.zero_le _, Nat.zero_le _⟩) hS (fun q _ h => hFc q h) hFc (fun u t H1 locs ht hvm hw hB hz1 hk1 hS => ?_)
          obtain ⟨hP1, hD1⟩ := hB
          rw [ht] at hP1
          obtain ⟨hP, hD⟩ := va_join (wr := ([0, 1, 5, 6, 7, 8] : List Nat).filterMap (fun i => (wDp cy hQ aQ sdQ Q ++ wSt cy (aQ 3) aT (aQ 1) T ++ wNt cy (aQ 1) aG G ++ wSt cy (aQ 4) aU (aQ 1) U)[i]?)) (w1 := wSt cy (aQ 4) aU (aQ 1) (i51_0, dk_upA (dk_upA U.2 1 g51_1) 2 g51_2) ++ wSt cy (aQ 3) aT (aQ 1) T) hP hD [9, 10, 11, 2, 3, 4] [0, 1, 5, 6, 7, 8] rfl rfl (by decide) (by decide) hk1 hFc hP1 hD1
          generalize H1 = H at hP hS ⊢
          have hP : va_P D vwCl (wDp cy hQ aQ sdQ Q ++ wSt cy (aQ 3) aT (aQ 1) T ++ wNt cy (aQ 1) aG G ++ wSt cy (aQ 4) aU (aQ 1) (i51_0, dk_upA (dk_upA U.2 1 g51_1) 2 g51_2)) H := hP.sub [0, 1, 9, 10, 11, 2, 3, 4, 5, 6, 7, 8] rfl
          have hD : va_D A (wDp cy hQ aQ sdQ Q ++ wSt cy (aQ 3) aT (aQ 1) T ++ wNt cy (aQ 1) aG G ++ wSt cy (aQ 4) aU (aQ 1) (i51_0, dk_upA (dk_upA U.2 1 g51_1) 2 g51_2)) := hD.sub [0, 1, 9, 10, 11, 2, 3, 4, 5, 6, 7, 8] (by decide) rfl
          refine lv_aload_n hx hb dX5_fate_54 rfl (lv_at hl 0 rfl) ?_
          refine va_get (D := D) (ci := 5) (v := .ref (aQ 4)) (C := RX5) (T := TX5) (N := 10) hx hb hts iX5_fate_X5 hown hK.1 hP 0 rfl rfl 4 (by decide) (hts (.fieldLink RX5 35 "DarkPlace" "trial" "LDarkPlace$Stand;") (List.mem_of_getElem? (i := 3) rfl)) (fun _ h9 => h9) rfl dX5_fate_55 ?_
          obtain ⟨⟨r58, i58_0, g58_1, g58_2⟩, k58, hf⟩ := dk_bind hf
          dsimp only at hf
          have hPc := hP.sub (ws' := wSt cy (aQ 4) aU (aQ 1) (i51_0, dk_upA (dk_upA U.2 1 g51_1) 2 g51_2) ++ wNt cy (aQ 1) aG G) [9, 10, 11, 5, 6, 7, 8] rfl
          have hDc := hD.sub (ws' := wSt cy (aQ 4) aU (aQ 1) (i51_0, dk_upA (dk_upA U.2 1 g51_1) 2 g51_2) ++ wNt cy (aQ 1) aG G) [9, 10, 11, 5, 6, 7, 8] (by decide) rfl
          have hFc := va_free (wc := wSt cy (aQ 4) aU (aQ 1) (i51_0, dk_upA (dk_upA U.2 1 g51_1) 2 g51_2) ++ wNt cy (aQ 1) aG G) hD hS hA [9, 10, 11, 5, 6, 7, 8] rfl
          refine va_calli (va_runV (As := []) (rest := []) ⟨hx, hb, hml, hown, hts⟩ (kX3_playTillKnown l D cy (aQ 4) aU (aQ 1) aG H.size (i51_0, dk_upA (dk_upA U.2 1 g51_1) 2 g51_2) G r58 i58_0 g58_1 g58_2 k58) (cwV 0 hts gX5_fate_X3_playTillKnown rfl rfl rfl (by decide +kernel) ⟨Nat.le_of_ble_eq_true rfl, Nat.le_of_ble_eq_true rfl⟩) (dk_premV hK hPc hDc (ci := 3) (q0 := 0) rfl rfl) rfl rfl hl.1 rfl (lv_room (Nat.le_of_ble_eq_true rfl)) dX5_fate_58 ⟨Nat.zero_le _, Nat.zero_le _⟩) hS (fun q _ h => hFc q h) hFc (fun xr58 u t H1 locs ht hvm hw hB hz1 hk1 hS => ?_)
          obtain ⟨hP1, hD1⟩ := hB
          rw [ht] at hP1
          rw [hw]
          obtain ⟨hP, hD⟩ := va_join (wr := ([0, 1, 2, 3, 4] : List Nat).filterMap (fun i => (wDp cy hQ aQ sdQ Q ++ wSt cy (aQ 3) aT (aQ 1) T ++ wNt cy (aQ 1) aG G ++ wSt cy (aQ 4) aU (aQ 1) (i51_0, dk_upA (dk_upA U.2 1 g51_1) 2 g51_2))[i]?)) (w1 := wSt cy (aQ 4) aU (aQ 1) (i58_0, dk_upA (dk_upA U.2 1 g58_1) 2 g58_2) ++ wNt cy (aQ 1) aG G) hP hD [9, 10, 11, 5, 6, 7, 8] [0, 1, 2, 3, 4] rfl rfl (by decide) (by decide) hk1 hFc hP1 hD1
          generalize H1 = H at hP hS ⊢
          have hP : va_P D vwCl (wDp cy hQ aQ sdQ Q ++ wSt cy (aQ 3) aT (aQ 1) T ++ wNt cy (aQ 1) aG G ++ wSt cy (aQ 4) aU (aQ 1) (i58_0, dk_upA (dk_upA U.2 1 g58_1) 2 g58_2)) H := hP.sub [0, 1, 2, 3, 4, 8, 9, 10, 11, 5, 6, 7] rfl
          have hD : va_D A (wDp cy hQ aQ sdQ Q ++ wSt cy (aQ 3) aT (aQ 1) T ++ wNt cy (aQ 1) aG G ++ wSt cy (aQ 4) aU (aQ 1) (i58_0, dk_upA (dk_upA U.2 1 g58_1) 2 g58_2)) := hD.sub [0, 1, 2, 3, 4, 8, 9, 10, 11, 5, 6, 7] (by decide) rfl
          refine lv_istore_n (lv' := [(3, .int r58), (0, .ref hQ), (1, .int v1), (2, .int v2)]) hx hb dX5_fate_61 rfl hl (by decide) rfl (fun ls hl => ?_)
          refine lv_iload_n hx hb dX5_fate_62 rfl (lv_at hl 3 rfl) ?_
          refine dk_ine (tgt := 68) hx hb dX5_fate_63 (by decide) hf (fun hf => ?_) (fun hf => ?_)
          · refine lv_iload_n hx hb dX5_fate_68 rfl (lv_at hl 3 rfl) ?_
            refine lv_iconst (v := 1) hx hb dX5_fate_69 (by decide) ?_
            refine dk_cne (tgt := 83) hx hb dX5_fate_70 (by decide) hf (fun hf => ?_) (fun hf => ?_)
            · refine lv_aload_n hx hb dX5_fate_83 rfl (lv_at hl 1 rfl) ?_
              refine va_get (D := D) (ci := 5) (v := .ref (aQ 4)) (C := RX5) (T := TX5) (N := 10) hx hb hts iX5_fate_X5 hown hK.1 hP 0 rfl rfl 4 (by decide) (hts (.fieldLink RX5 35 "DarkPlace" "trial" "LDarkPlace$Stand;") (List.mem_of_getElem? (i := 3) rfl)) (fun _ h9 => h9) rfl dX5_fate_84 ?_
              obtain ⟨r87, k87, hf⟩ := dk_bind hf
              refine dk_ri (va_runV (As := []) (rest := []) ⟨hx, hb, hml, hown, hts⟩ (kX3_living l D cy (aQ 4) aU (aQ 1) aG (i58_0, dk_upA (dk_upA U.2 1 g58_1) 2 g58_2) G r87 k87) (cwV 0 hts gX5_fate_X3_living rfl rfl rfl (by decide +kernel) ⟨Nat.le_of_ble_eq_true rfl, Nat.le_of_ble_eq_true rfl⟩) (dk_preV hK (hP.sub (ws' := wSt cy (aQ 4) aU (aQ 1) (i58_0, dk_upA (dk_upA U.2 1 g58_1) 2 g58_2) ++ wNt cy (aQ 1) aG G) [9, 10, 11, 5, 6, 7, 8] rfl) (ci := 3) (q0 := 0) rfl rfl) rfl rfl hl.1 rfl (lv_room (Nat.le_of_ble_eq_true rfl)) dX5_fate_87 ⟨Nat.zero_le _, Nat.zero_le _⟩) ?_
              have e := Option.some.inj hf
              simp only [Prod.mk.injEq] at e
              obtain ⟨e0, e1, e2, e3⟩ := e
              subst e1
              subst e2
              subst e3
              exact W.iret (v := r87) hx hb hr (fun t ht hW => ⟨⟨r87, (), rfl, e0, by rw [ht]; exact hP, hD⟩, hS.F ht⟩) hS.2.2 dX5_fate_90
            · refine lv_aload_n hx hb dX5_fate_73 rfl (lv_at hl 1 rfl) ?_
              refine va_get (D := D) (ci := 5) (v := .ref (aQ 4)) (C := RX5) (T := TX5) (N := 10) hx hb hts iX5_fate_X5 hown hK.1 hP 0 rfl rfl 4 (by decide) (hts (.fieldLink RX5 35 "DarkPlace" "trial" "LDarkPlace$Stand;") (List.mem_of_getElem? (i := 3) rfl)) (fun _ h9 => h9) rfl dX5_fate_74 ?_
              refine va_getN (D := D) (ci := 3) (v := .int (i58_0 5)) (C := RX3) (T := TX3) (N := 9) hx hb hts iX5_fate_X3 hown hK.1 hP 9 rfl rfl 5 (by decide) (va_Nw.use rfl (hK.2 (.fieldLinkNest "DarkPlace" 168 "DarkPlace$Stand" "moves" "I" "DarkPlace") (List.mem_of_getElem? (i := 12) rfl))) (fun _ h9 => h9) rfl dX5_fate_77 ?_
              refine lv_goto (tgt := 90) hx hb dX5_fate_80 (by decide) ?_
              have e := Option.some.inj hf
              simp only [Prod.mk.injEq] at e
              obtain ⟨e0, e1, e2, e3⟩ := e
              subst e1
              subst e2
              subst e3
              exact W.iret (v := i58_0 5) hx hb hr (fun t ht hW => ⟨⟨i58_0 5, (), rfl, e0, by rw [ht]; exact hP, hD⟩, hS.F ht⟩) hS.2.2 dX5_fate_90
          · refine lv_iload_n hx hb dX5_fate_66 rfl (lv_at hl 0 rfl) ?_
            have e := Option.some.inj hf
            simp only [Prod.mk.injEq] at e
            obtain ⟨e0, e1, e2, e3⟩ := e
            subst e1
            subst e2
            subst e3
            exact W.iret (v := r58) hx hb hr (fun t ht hW => ⟨⟨r58, (), rfl, e0, by rw [ht]; exact hP, hD⟩, hS.F ht⟩) hS.2.2 dX5_fate_67
        · refine lv_bipush (v := (-3)) hx hb dX5_fate_39 (by decide) ?_
          have e := Option.some.inj hf
          simp only [Prod.mk.injEq] at e
          obtain ⟨e0, e1, e2, e3⟩ := e
          subst e1
          subst e2
          subst e3
          exact W.iret (v := (-3)) hx hb hr (fun t ht hW => ⟨⟨(-3), (), rfl, e0, by rw [ht]; exact hP, hD⟩, hS.F ht⟩) hS.2.2 dX5_fate_41
      · refine lv_bipush (v := (-2)) hx hb dX5_fate_22 (by decide) ?_
        have e := Option.some.inj hf
        simp only [Prod.mk.injEq] at e
        obtain ⟨e0, e1, e2, e3⟩ := e
        subst e1
        subst e2
        subst e3
        exact W.iret (v := (-2)) hx hb hr (fun t ht hW => ⟨⟨(-2), (), rfl, e0, by rw [ht]; exact hP, hD⟩, hS.F ht⟩) hS.2.2 dX5_fate_24
  · refine lv_iconst (v := (-1)) hx hb dX5_fate_11 (by decide) ?_
    have e := Option.some.inj hf
    simp only [Prod.mk.injEq] at e
    obtain ⟨e0, e1, e2, e3⟩ := e
    subst e1
    subst e2
    subst e3
    exact W.iret (v := (-1)) hx hb hr (fun t ht hW => ⟨⟨(-1), (), rfl, e0, by rw [ht]; exact hP, hD⟩, hS.F ht⟩) hS.2.2 dX5_fate_12
theorem iX5_see_X2 : ∀ w ∈ wsX20, w ∈ wsX5_see := fun _ h => List.mem_cons_of_mem _ (List.mem_append_right _ h)
theorem iX5_see_X5 : ∀ w ∈ wsX50, w ∈ wsX5_see := fun _ h => List.mem_cons_of_mem _ (List.mem_append_left _ (List.mem_append_right _ h))
set_option maxHeartbeats 4000000 in
set_option maxRecDepth 100000 in
theorem kX5_see (l : Launch) (D : va_G) (cy : Nat → ClassId) (hQ : Nat) (aQ : Nat → Nat) (sdQ : Int64) (aE : Nat → Nat) (sz : Nat) (Q : dk_O) (E : dk_O) (v1 : Int32) (v2 : Int32) (r : Int32) (oE_I : (Nat → Int32)) (oE_0 : (Nat → Int32)) (oE_1 : (Nat → Int32)) (hf : fX5_see Q E v1 v2 = some (r, oE_I, oE_0, oE_1)) : dk_MuI l yX5_see wsX5_see ({ frames := 1, cells := 0, slots := 0, locals := 22 }) D cy [.ref hQ, .int v1, .int v2] (wDp cy hQ aQ sdQ Q ++ wSe cy (aQ 8) aE E) (wDp cy hQ aQ sdQ Q ++ wSe cy (aQ 8) aE (oE_I, dk_upA (dk_upA E.2 0 oE_0) 1 oE_1)) sz r := by
  refine Met.ofW (cc := cX5_see) (maxL := 3) (ret := (some .int)) (by decide) rfl ?_
  intro p e s m args below meth c s₁ B hml hv
  obtain ⟨rfl, hsz, hP, hK, hD0⟩ := hv
  have hx := B.exec
  have hb := B.bytes
  have hr := B.returns
  have hts := atoms_spec (ws := wsX5_see) B.pre
  have hown : s.vm.findClass RX5 = some m.cls := findClass_of_methodNamed B.named
  have hlocks := B.notSynchronized
  subst hsz
  have hD := hD0.self (sz := s.heap.size)
  generalize hAe : va_A (wDp cy hQ aQ sdQ Q ++ wSe cy (aQ 8) aE E) s.heap.size = A at hD ⊢
  have hA : ∀ q : Nat, s.heap.size ≤ q → A q := fun q h => by rw [← hAe]; exact Or.inr h
  have hS : va_S A s.heap s.heap [] := va_S.rf
  have hl := lv_entry ([.ref hQ, .int v1, .int v2]) (n := 3) (Nat.le_of_ble_eq_true rfl)
  rw [lg_entry_eq]
  generalize (lg_sl ([.ref hQ, .int v1, .int v2]) ++ List.replicate (3 - (lg_sl ([.ref hQ, .int v1, .int v2])).length) Slot.unset).toArray = ls at hl ⊢
  have hl : lv_has ls 3 [(0, .ref hQ), (1, .int v1), (2, .int v2)] := hl
  unfold fX5_see at hf
  refine lv_iload_n hx hb dX5_see_0 rfl (lv_at hl 1 rfl) ?_
  refine lv_iload_n hx hb dX5_see_1 rfl (lv_at hl 2 rfl) ?_
  obtain ⟨r2, k2, hf⟩ := dk_bind hf
  refine dk_ri (va_runS (As := [.int v1, .int v2]) (rest := []) ⟨hx, hb, hml, hown, hts⟩ (kX5_isOutsideOfSeen l D cy v1 v2 r2 k2) (va_cwS 2 hts gX5_see_X5_isOutsideOfSeen rfl rfl rfl (by decide +kernel) ⟨Nat.le_of_ble_eq_true rfl, Nat.le_of_ble_eq_true rfl⟩) (dk_preS hK (hP.sub (ws' := []) [] rfl)) rfl rfl hl.1 rfl (lv_room (Nat.le_of_ble_eq_true rfl)) dX5_see_2 ⟨Nat.zero_le _, Nat.zero_le _⟩) ?_
  refine dk_ieq (tgt := 11) hx hb dX5_see_5 (by decide) hf (fun hf => ?_) (fun hf => ?_)
  · refine lv_aload_n hx hb dX5_see_11 rfl (lv_at hl 0 rfl) ?_
    refine va_get (D := D) (ci := 5) (v := .ref (aQ 8)) (C := RX5) (T := TX5) (N := 10) hx hb hts iX5_see_X5 hown hK.1 hP 0 rfl rfl 8 (by decide) (hts (.fieldLink RX5 56 "DarkPlace" "seen" "LDarkPlace$Seen;") (List.mem_of_getElem? (i := 1) rfl)) (fun _ h9 => h9) rfl dX5_see_12 ?_
    refine va_getN (D := D) (ci := 2) (v := .int (E.1 2)) (C := RX2) (T := TX2) (N := 3) hx hb hts iX5_see_X2 hown hK.1 hP 2 rfl rfl 2 (by decide) (va_Nw.use rfl (hK.2 (.fieldLinkNest "DarkPlace" 208 "DarkPlace$Seen" "size" "I" "DarkPlace") (List.mem_of_getElem? (i := 15) rfl))) (fun _ h9 => h9) rfl dX5_see_15 ?_
    refine lv_bipush (v := 6) hx hb dX5_see_18 (by decide) ?_
    refine dk_clt (tgt := 26) hx hb dX5_see_20 (by decide) hf (fun hf => ?_) (fun hf => ?_)
    · refine lv_aload_n hx hb dX5_see_26 rfl (lv_at hl 0 rfl) ?_
      refine va_get (D := D) (ci := 5) (v := .ref (aQ 8)) (C := RX5) (T := TX5) (N := 10) hx hb hts iX5_see_X5 hown hK.1 hP 0 rfl rfl 8 (by decide) (hts (.fieldLink RX5 56 "DarkPlace" "seen" "LDarkPlace$Seen;") (List.mem_of_getElem? (i := 1) rfl)) (fun _ h9 => h9) rfl dX5_see_27 ?_
      refine lv_iload_n hx hb dX5_see_30 rfl (lv_at hl 1 rfl) ?_
      refine lv_iload_n hx hb dX5_see_31 rfl (lv_at hl 2 rfl) ?_
      obtain ⟨⟨r32, i32_0, g32_1, g32_2⟩, k32, hf⟩ := dk_bind hf
      dsimp only at hf
      have hPc := hP.sub (ws' := wSe cy (aQ 8) aE E) [2, 3, 4] rfl
      have hDc := hD.sub (ws' := wSe cy (aQ 8) aE E) [2, 3, 4] (by decide) rfl
      have hFc := va_free (wc := wSe cy (aQ 8) aE E) hD hS hA [2, 3, 4] rfl
      refine va_calli (va_runV (As := [.int v1, .int v2]) (rest := []) ⟨hx, hb, hml, hown, hts⟩ (kX2_add l D cy (aQ 8) aE s.heap.size E v1 v2 r32 i32_0 g32_1 g32_2 k32) (cwV 2 hts gX5_see_X2_add rfl rfl rfl (by decide +kernel) ⟨Nat.le_of_ble_eq_true rfl, Nat.le_of_ble_eq_true rfl⟩) (dk_premV hK hPc hDc (ci := 2) (q0 := 0) rfl rfl) rfl rfl hl.1 rfl (lv_room (Nat.le_of_ble_eq_true rfl)) dX5_see_32 ⟨Nat.zero_le _, Nat.zero_le _⟩) hS (fun q _ h => hFc q h) hFc (fun xr32 u t H1 locs ht hvm hw hB hz1 hk1 hS => ?_)
      obtain ⟨hP1, hD1⟩ := hB
      rw [ht] at hP1
      rw [hw]
      obtain ⟨hP, hD⟩ := va_join (wr := ([0, 1] : List Nat).filterMap (fun i => (wDp cy hQ aQ sdQ Q ++ wSe cy (aQ 8) aE E)[i]?)) (w1 := wSe cy (aQ 8) aE (i32_0, dk_upA (dk_upA E.2 0 g32_1) 1 g32_2)) hP hD [2, 3, 4] [0, 1] rfl rfl (by decide) (by decide) hk1 hFc hP1 hD1
      generalize H1 = H at hP hS ⊢
      have hP : va_P D vwCl (wDp cy hQ aQ sdQ Q ++ wSe cy (aQ 8) aE (i32_0, dk_upA (dk_upA E.2 0 g32_1) 1 g32_2)) H := hP.sub [0, 1, 2, 3, 4] rfl
      have hD : va_D A (wDp cy hQ aQ sdQ Q ++ wSe cy (aQ 8) aE (i32_0, dk_upA (dk_upA E.2 0 g32_1) 1 g32_2)) := hD.sub [0, 1, 2, 3, 4] (by decide) rfl
      have e := Option.some.inj hf
      simp only [Prod.mk.injEq] at e
      obtain ⟨e0, e1, e2, e3⟩ := e
      subst e1
      subst e2
      subst e3
      exact W.iret (v := r32) hx hb hr (fun t ht hW => ⟨⟨r32, (), rfl, e0, by rw [ht]; exact hP, hD⟩, hS.F ht⟩) hS.2.2 dX5_see_35
    · refine lv_bipush (v := (-4)) hx hb dX5_see_23 (by decide) ?_
      have e := Option.some.inj hf
      simp only [Prod.mk.injEq] at e
      obtain ⟨e0, e1, e2, e3⟩ := e
      subst e1
      subst e2
      subst e3
      exact W.iret (v := (-4)) hx hb hr (fun t ht hW => ⟨⟨(-4), (), rfl, e0, by rw [ht]; exact hP, hD⟩, hS.F ht⟩) hS.2.2 dX5_see_25
  · refine lv_bipush (v := (-2)) hx hb dX5_see_8 (by decide) ?_
    have e := Option.some.inj hf
    simp only [Prod.mk.injEq] at e
    obtain ⟨e0, e1, e2, e3⟩ := e
    subst e1
    subst e2
    subst e3
    exact W.iret (v := (-2)) hx hb hr (fun t ht hW => ⟨⟨(-2), (), rfl, e0, by rw [ht]; exact hP, hD⟩, hS.F ht⟩) hS.2.2 dX5_see_10
theorem iX5_unsee_X5 : ∀ w ∈ wsX50, w ∈ wsX5_unsee := fun _ h => List.mem_cons_of_mem _ (List.mem_append_left _ (List.mem_append_right _ h))
set_option maxHeartbeats 4000000 in
set_option maxRecDepth 100000 in
theorem kX5_unsee (l : Launch) (D : va_G) (cy : Nat → ClassId) (hQ : Nat) (aQ : Nat → Nat) (sdQ : Int64) (aE : Nat → Nat) (sz : Nat) (Q : dk_O) (E : dk_O)  (r : Int32) (oE_I : (Nat → Int32)) (hf : fX5_unsee Q E = some (r, oE_I)) : dk_MuI l yX5_unsee wsX5_unsee ({ frames := 1, cells := 0, slots := 0, locals := 21 }) D cy [.ref hQ] (wDp cy hQ aQ sdQ Q ++ wSe cy (aQ 8) aE E) (wDp cy hQ aQ sdQ Q ++ wSe cy (aQ 8) aE (oE_I, E.2)) sz r := by
  refine Met.ofW (cc := cX5_unsee) (maxL := 1) (ret := (some .int)) (by decide) rfl ?_
  intro p e s m args below meth c s₁ B hml hv
  obtain ⟨rfl, hsz, hP, hK, hD0⟩ := hv
  have hx := B.exec
  have hb := B.bytes
  have hr := B.returns
  have hts := atoms_spec (ws := wsX5_unsee) B.pre
  have hown : s.vm.findClass RX5 = some m.cls := findClass_of_methodNamed B.named
  have hlocks := B.notSynchronized
  subst hsz
  have hD := hD0.self (sz := s.heap.size)
  generalize hAe : va_A (wDp cy hQ aQ sdQ Q ++ wSe cy (aQ 8) aE E) s.heap.size = A at hD ⊢
  have hA : ∀ q : Nat, s.heap.size ≤ q → A q := fun q h => by rw [← hAe]; exact Or.inr h
  have hS : va_S A s.heap s.heap [] := va_S.rf
  have hl := lv_entry ([.ref hQ]) (n := 1) (Nat.le_of_ble_eq_true rfl)
  rw [lg_entry_eq]
  generalize (lg_sl ([.ref hQ]) ++ List.replicate (1 - (lg_sl ([.ref hQ])).length) Slot.unset).toArray = ls at hl ⊢
  have hl : lv_has ls 1 [(0, .ref hQ)] := hl
  unfold fX5_unsee at hf
  refine lv_aload_n hx hb dX5_unsee_0 rfl (lv_at hl 0 rfl) ?_
  refine va_get (D := D) (ci := 5) (v := .ref (aQ 8)) (C := RX5) (T := TX5) (N := 10) hx hb hts iX5_unsee_X5 hown hK.1 hP 0 rfl rfl 8 (by decide) (hts (.fieldLink RX5 56 "DarkPlace" "seen" "LDarkPlace$Seen;") (List.mem_of_getElem? (i := 1) rfl)) (fun _ h9 => h9) rfl dX5_unsee_1 ?_
  obtain ⟨⟨r4, i4_0⟩, k4, hf⟩ := dk_bind hf
  dsimp only at hf
  have hPc := hP.sub (ws' := wSe cy (aQ 8) aE E) [2, 3, 4] rfl
  have hDc := hD.sub (ws' := wSe cy (aQ 8) aE E) [2, 3, 4] (by decide) rfl
  have hFc := va_free (wc := wSe cy (aQ 8) aE E) hD hS hA [2, 3, 4] rfl
  refine va_calli (va_runV (As := []) (rest := []) ⟨hx, hb, hml, hown, hts⟩ (kX2_clear l D cy (aQ 8) aE s.heap.size E r4 i4_0 k4) (cwV 0 hts gX5_unsee_X2_clear rfl rfl rfl (by decide +kernel) ⟨Nat.le_of_ble_eq_true rfl, Nat.le_of_ble_eq_true rfl⟩) (dk_premV hK hPc hDc (ci := 2) (q0 := 0) rfl rfl) rfl rfl hl.1 rfl (lv_room (Nat.le_of_ble_eq_true rfl)) dX5_unsee_4 ⟨Nat.zero_le _, Nat.zero_le _⟩) hS (fun q _ h => hFc q h) hFc (fun xr4 u t H1 locs ht hvm hw hB hz1 hk1 hS => ?_)
  obtain ⟨hP1, hD1⟩ := hB
  rw [ht] at hP1
  rw [hw]
  obtain ⟨hP, hD⟩ := va_join (wr := ([0, 1] : List Nat).filterMap (fun i => (wDp cy hQ aQ sdQ Q ++ wSe cy (aQ 8) aE E)[i]?)) (w1 := wSe cy (aQ 8) aE (i4_0, E.2)) hP hD [2, 3, 4] [0, 1] rfl rfl (by decide) (by decide) hk1 hFc hP1 hD1
  generalize H1 = H at hP hS ⊢
  have hP : va_P D vwCl (wDp cy hQ aQ sdQ Q ++ wSe cy (aQ 8) aE (i4_0, E.2)) H := hP.sub [0, 1, 2, 3, 4] rfl
  have hD : va_D A (wDp cy hQ aQ sdQ Q ++ wSe cy (aQ 8) aE (i4_0, E.2)) := hD.sub [0, 1, 2, 3, 4] (by decide) rfl
  have e := Option.some.inj hf
  simp only [Prod.mk.injEq] at e
  obtain ⟨e0, e1⟩ := e
  subst e1
  exact W.iret (v := r4) hx hb hr (fun t ht hW => ⟨⟨r4, (), rfl, e0, by rw [ht]; exact hP, hD⟩, hS.F ht⟩) hS.2.2 dX5_unsee_7
theorem iX5_fitsAllSeen_X2 : ∀ w ∈ wsX20, w ∈ wsX5_fitsAllSeen := fun _ h => List.mem_cons_of_mem _ (List.mem_append_left _ (List.mem_append_left _ (List.mem_append_right _ h)))
theorem iX5_fitsAllSeen_X5 : ∀ w ∈ wsX50, w ∈ wsX5_fitsAllSeen := fun _ h => List.mem_cons_of_mem _ (List.mem_append_left _ (List.mem_append_left _ (List.mem_append_left _ (List.mem_append_right _ h))))
set_option maxHeartbeats 4000000 in
set_option maxRecDepth 100000 in
theorem kX5_fitsAllSeen (l : Launch) (D : va_G) (cy : Nat → ClassId) (hQ : Nat) (aQ : Nat → Nat) (sdQ : Int64) (aT : Nat → Nat) (aG : Nat → Nat) (aU : Nat → Nat) (aE : Nat → Nat) (sz : Nat) (Q : dk_O) (T : dk_O) (G : dk_O) (U : dk_O) (E : dk_O) (v1 : Int32) (r : Int32) (oU_I : (Nat → Int32)) (oU_1 : (Nat → Int32)) (oU_2 : (Nat → Int32)) (hf : fX5_fitsAllSeen Q T G U E v1 = some (r, oU_I, oU_1, oU_2)) : dk_MuI l yX5_fitsAllSeen wsX5_fitsAllSeen ({ frames := 4, cells := 0, slots := 0, locals := 96 }) D cy [.ref hQ, .int v1] (wDp cy hQ aQ sdQ Q ++ wSt cy (aQ 3) aT (aQ 1) T ++ wNt cy (aQ 1) aG G ++ wSt cy (aQ 4) aU (aQ 1) U ++ wSe cy (aQ 8) aE E) (wDp cy hQ aQ sdQ Q ++ wSt cy (aQ 3) aT (aQ 1) T ++ wNt cy (aQ 1) aG G ++ wSt cy (aQ 4) aU (aQ 1) (oU_I, dk_upA (dk_upA U.2 1 oU_1) 2 oU_2) ++ wSe cy (aQ 8) aE E) sz r := by
  refine Met.ofW (cc := cX5_fitsAllSeen) (maxL := 4) (ret := (some .boolean)) (by decide) rfl ?_
  intro p e s m args below meth c s₁ B hml hv
  obtain ⟨rfl, hsz, hP, hK, hD0⟩ := hv
  have hx := B.exec
  have hb := B.bytes
  have hr := B.returns
  have hts := atoms_spec (ws := wsX5_fitsAllSeen) B.pre
  have hown : s.vm.findClass RX5 = some m.cls := findClass_of_methodNamed B.named
  have hlocks := B.notSynchronized
  subst hsz
  have hD := hD0.self (sz := s.heap.size)
  generalize hAe : va_A (wDp cy hQ aQ sdQ Q ++ wSt cy (aQ 3) aT (aQ 1) T ++ wNt cy (aQ 1) aG G ++ wSt cy (aQ 4) aU (aQ 1) U ++ wSe cy (aQ 8) aE E) s.heap.size = A at hD ⊢
  have hA : ∀ q : Nat, s.heap.size ≤ q → A q := fun q h => by rw [← hAe]; exact Or.inr h
  have hS : va_S A s.heap s.heap [] := va_S.rf
  have hl := lv_entry ([.ref hQ, .int v1]) (n := 4) (Nat.le_of_ble_eq_true rfl)
  rw [lg_entry_eq]
  generalize (lg_sl ([.ref hQ, .int v1]) ++ List.replicate (4 - (lg_sl ([.ref hQ, .int v1])).length) Slot.unset).toArray = ls at hl ⊢
  have hl : lv_has ls 4 [(0, .ref hQ), (1, .int v1)] := hl
  have L34 : ∀ (fu34 : Nat) (x2 : Int32) (x3 : Int32) (U_I : (Nat → Int32)) (U_1 : (Nat → Int32)) (U_2 : (Nat → Int32)) (H : Heap) (locs : List Loc) (ls : Array Slot), va_P D vwCl (wDp cy hQ aQ sdQ Q ++ wSt cy (aQ 3) aT (aQ 1) T ++ wNt cy (aQ 1) aG G ++ wSt cy (aQ 4) aU (aQ 1) (U_I, dk_upA (dk_upA U.2 1 U_1) 2 U_2) ++ wSe cy (aQ 8) aE E) H → va_D A (wDp cy hQ aQ sdQ Q ++ wSt cy (aQ 3) aT (aQ 1) T ++ wNt cy (aQ 1) aG G ++ wSt cy (aQ 4) aU (aQ 1) (U_I, dk_upA (dk_upA U.2 1 U_1) 2 U_2) ++ wSe cy (aQ 8) aE E) → va_S A s.heap H locs → lv_has ls 4 [(0, .ref hQ), (2, .int x2), (3, .int x3)] → fX5_fitsAllSeen_L34 Q T G U E fu34 x2 x3 U_I U_1 U_2 = some (r, oU_I, oU_1, oU_2) → W p l e (headSpec wsX5_fitsAllSeen ({ frames := 4, cells := 0, slots := 0, locals := 96 })).room s m ([.ref hQ, .int v1]).toArray below meth c H locs 0 0 (MQ below (va_Qi (fun (x : Int32) (_ : Unit) => x = r) (dk_B D (wDp cy hQ aQ sdQ Q ++ wSt cy (aQ 3) aT (aQ 1) T ++ wNt cy (aQ 1) aG G ++ wSt cy (aQ 4) aU (aQ 1) (oU_I, dk_upA (dk_upA U.2 1 oU_1) 2 oU_2) ++ wSe cy (aQ 8) aE E) A) A) ([.ref hQ, .int v1]).toArray s 0 0 A) (F0 m 34 ls []) := by
    intro fu34
    induction fu34 with
    | zero =>
      intro x2 x3 U_I U_1 U_2 H locs ls hP hD hS hl hf
      rw [fX5_fitsAllSeen_L34] at hf
      cases hf
    | succ fu34 ih34 =>
      intro x2 x3 U_I U_1 U_2 H locs ls hP hD hS hl hf
      rw [fX5_fitsAllSeen_L34] at hf
      have L53 : ∀ (x2 : Int32) (x3 : Int32) (U_I : (Nat → Int32)) (U_1 : (Nat → Int32)) (U_2 : (Nat → Int32)) (H : Heap) (locs : List Loc) (ls : Array Slot), va_P D vwCl (wDp cy hQ aQ sdQ Q ++ wSt cy (aQ 3) aT (aQ 1) T ++ wNt cy (aQ 1) aG G ++ wSt cy (aQ 4) aU (aQ 1) (U_I, dk_upA (dk_upA U.2 1 U_1) 2 U_2) ++ wSe cy (aQ 8) aE E) H → va_D A (wDp cy hQ aQ sdQ Q ++ wSt cy (aQ 3) aT (aQ 1) T ++ wNt cy (aQ 1) aG G ++ wSt cy (aQ 4) aU (aQ 1) (U_I, dk_upA (dk_upA U.2 1 U_1) 2 U_2) ++ wSe cy (aQ 8) aE E) → va_S A s.heap H locs → lv_has ls 4 [(0, .ref hQ), (2, .int x2), (3, .int x3)] → fX5_fitsAllSeen_L53 Q T G U E (fun z0 z1 z2 z3 z4 => fX5_fitsAllSeen_L34 Q T G U E fu34 z0 z1 z2 z3 z4) x2 x3 U_I U_1 U_2 = some (r, oU_I, oU_1, oU_2) → W p l e (headSpec wsX5_fitsAllSeen ({ frames := 4, cells := 0, slots := 0, locals := 96 })).room s m ([.ref hQ, .int v1]).toArray below meth c H locs 0 0 (MQ below (va_Qi (fun (x : Int32) (_ : Unit) => x = r) (dk_B D (wDp cy hQ aQ sdQ Q ++ wSt cy (aQ 3) aT (aQ 1) T ++ wNt cy (aQ 1) aG G ++ wSt cy (aQ 4) aU (aQ 1) (oU_I, dk_upA (dk_upA U.2 1 oU_1) 2 oU_2) ++ wSe cy (aQ 8) aE E) A) A) ([.ref hQ, .int v1]).toArray s 0 0 A) (F0 m 53 ls []) := by
        intro x2 x3 U_I U_1 U_2 H locs ls hP hD hS hl hf
        unfold fX5_fitsAllSeen_L53 at hf
        refine lv_aload_n hx hb dX5_fitsAllSeen_53 rfl (lv_at hl 0 rfl) ?_
        refine va_get (D := D) (ci := 5) (v := .ref (aQ 8)) (C := RX5) (T := TX5) (N := 10) hx hb hts iX5_fitsAllSeen_X5 hown hK.1 hP 0 rfl rfl 8 (by decide) (hts (.fieldLink RX5 56 "DarkPlace" "seen" "LDarkPlace$Seen;") (List.mem_of_getElem? (i := 1) rfl)) (fun _ h9 => h9) rfl dX5_fitsAllSeen_54 ?_
        refine lv_iload_n hx hb dX5_fitsAllSeen_57 rfl (lv_at hl 2 rfl) ?_
        refine lv_aload_n hx hb dX5_fitsAllSeen_58 rfl (lv_at hl 0 rfl) ?_
        refine va_get (D := D) (ci := 5) (v := .ref (aQ 4)) (C := RX5) (T := TX5) (N := 10) hx hb hts iX5_fitsAllSeen_X5 hown hK.1 hP 0 rfl rfl 4 (by decide) (hts (.fieldLink RX5 35 "DarkPlace" "trial" "LDarkPlace$Stand;") (List.mem_of_getElem? (i := 2) rfl)) (fun _ h9 => h9) rfl dX5_fitsAllSeen_59 ?_
        obtain ⟨r62, k62, hf⟩ := dk_bind hf
        refine dk_ri (va_runV (As := []) (rest := [.int x3, .ref (aQ 8)]) ⟨hx, hb, hml, hown, hts⟩ (kX3_living l D cy (aQ 4) aU (aQ 1) aG (U_I, dk_upA (dk_upA U.2 1 U_1) 2 U_2) G r62 k62) (cwV 0 hts gX5_fitsAllSeen_X3_living rfl rfl rfl (by decide +kernel) ⟨Nat.le_of_ble_eq_true rfl, Nat.le_of_ble_eq_true rfl⟩) (dk_preV hK (hP.sub (ws' := wSt cy (aQ 4) aU (aQ 1) (U_I, dk_upA (dk_upA U.2 1 U_1) 2 U_2) ++ wNt cy (aQ 1) aG G) [9, 10, 11, 5, 6, 7, 8] rfl) (ci := 3) (q0 := 0) rfl rfl) rfl rfl hl.1 rfl (lv_room (Nat.le_of_ble_eq_true rfl)) dX5_fitsAllSeen_62 ⟨Nat.zero_le _, Nat.zero_le _⟩) ?_
        obtain ⟨r65, k65, hf⟩ := dk_bind hf
        refine dk_ri (va_runV (As := [.int x3, .int r62]) (rest := []) ⟨hx, hb, hml, hown, hts⟩ (kX2_speaksAgainst l D cy (aQ 8) aE E x3 r62 r65 k65) (cwV 2 hts gX5_fitsAllSeen_X2_speaksAgainst rfl rfl rfl (by decide +kernel) ⟨Nat.le_of_ble_eq_true rfl, Nat.le_of_ble_eq_true rfl⟩) (dk_preV hK (hP.sub (ws' := wSe cy (aQ 8) aE E) [12, 13, 14] rfl) (ci := 2) (q0 := 0) rfl rfl) rfl rfl hl.1 rfl (lv_room (Nat.le_of_ble_eq_true rfl)) dX5_fitsAllSeen_65 ⟨Nat.zero_le _, Nat.zero_le _⟩) ?_
        refine dk_ieq (tgt := 73) hx hb dX5_fitsAllSeen_68 (by decide) hf (fun hf => ?_) (fun hf => ?_)
        · refine lv_iinc (v := x3 + 1) (lv' := [(3, .int (x3 + 1)), (0, .ref hQ), (2, .int x2)]) hx hb dX5_fitsAllSeen_73 hl (k := 2) rfl rfl (by decide) rfl (fun ls hl => ?_)
          refine lv_goto (tgt := 34) hx hb dX5_fitsAllSeen_76 (by decide) ?_
          exact ih34 x2 (x3 + 1) U_I U_1 U_2 _ _ _ hP hD hS (lv_sub hl [1, 2, 0] rfl) hf
        · refine lv_iconst (v := 0) hx hb dX5_fitsAllSeen_71 (by decide) ?_
          have e := Option.some.inj hf
          simp only [Prod.mk.injEq] at e
          obtain ⟨e0, e1, e2, e3⟩ := e
          subst e1
          subst e2
          subst e3
          exact W.zret (v := 0) hx hb hr rfl (fun t ht hW => ⟨⟨0, (), rfl, e0, by rw [ht]; exact hP, hD⟩, hS.F ht⟩) hS.2.2 dX5_fitsAllSeen_72
      refine lv_iload_n hx hb dX5_fitsAllSeen_34 rfl (lv_at hl 2 rfl) ?_
      refine lv_iload_n hx hb dX5_fitsAllSeen_35 rfl (lv_at hl 1 rfl) ?_
      refine dk_cgt (tgt := 79) hx hb dX5_fitsAllSeen_36 (by decide) hf (fun hf => ?_) (fun hf => ?_)
      · refine lv_iconst (v := 1) hx hb dX5_fitsAllSeen_79 (by decide) ?_
        have e := Option.some.inj hf
        simp only [Prod.mk.injEq] at e
        obtain ⟨e0, e1, e2, e3⟩ := e
        subst e1
        subst e2
        subst e3
        exact W.zret (v := 1) hx hb hr rfl (fun t ht hW => ⟨⟨1, (), rfl, e0, by rw [ht]; exact hP, hD⟩, hS.F ht⟩) hS.2.2 dX5_fitsAllSeen_80
      · refine lv_iload_n hx hb dX5_fitsAllSeen_39 rfl (lv_at hl 2 rfl) ?_
        refine dk_ile (tgt := 53) hx hb dX5_fitsAllSeen_40 (by decide) hf (fun hf => ?_) (fun hf => ?_)
        · exact L53 x2 x3 U_I U_1 U_2 _ _ _ hP hD hS (lv_sub hl [0, 1, 2] rfl) hf
        · refine lv_aload_n hx hb dX5_fitsAllSeen_43 rfl (lv_at hl 0 rfl) ?_
          refine va_get (D := D) (ci := 5) (v := .ref (aQ 4)) (C := RX5) (T := TX5) (N := 10) hx hb hts iX5_fitsAllSeen_X5 hown hK.1 hP 0 rfl rfl 4 (by decide) (hts (.fieldLink RX5 35 "DarkPlace" "trial" "LDarkPlace$Stand;") (List.mem_of_getElem? (i := 2) rfl)) (fun _ h9 => h9) rfl dX5_fitsAllSeen_44 ?_
          refine lv_bipush (v := 15) hx hb dX5_fitsAllSeen_47 (by decide) ?_
          obtain ⟨⟨r49, i49_0, g49_1, g49_2⟩, k49, hf⟩ := dk_bind hf
          dsimp only at hf
          have hPc := hP.sub (ws' := wSt cy (aQ 4) aU (aQ 1) (U_I, dk_upA (dk_upA U.2 1 U_1) 2 U_2) ++ wNt cy (aQ 1) aG G) [9, 10, 11, 5, 6, 7, 8] rfl
          have hDc := hD.sub (ws' := wSt cy (aQ 4) aU (aQ 1) (U_I, dk_upA (dk_upA U.2 1 U_1) 2 U_2) ++ wNt cy (aQ 1) aG G) [9, 10, 11, 5, 6, 7, 8] (by decide) rfl
          have hFc := va_free (wc := wSt cy (aQ 4) aU (aQ 1) (U_I, dk_upA (dk_upA U.2 1 U_1) 2 U_2) ++ wNt cy (aQ 1) aG G) hD hS hA [9, 10, 11, 5, 6, 7, 8] rfl
          refine va_calli (va_runV (As := [.int 15]) (rest := []) ⟨hx, hb, hml, hown, hts⟩ (kX3_playRound l D cy (aQ 4) aU (aQ 1) aG H.size (U_I, dk_upA (dk_upA U.2 1 U_1) 2 U_2) G 15 r49 i49_0 g49_1 g49_2 k49) (cwV 1 hts gX5_fitsAllSeen_X3_playRound rfl rfl rfl (by decide +kernel) ⟨Nat.le_of_ble_eq_true rfl, Nat.le_of_ble_eq_true rfl⟩) (dk_premV hK hPc hDc (ci := 3) (q0 := 0) rfl rfl) rfl rfl hl.1 rfl (lv_room (Nat.le_of_ble_eq_true rfl)) dX5_fitsAllSeen_49 ⟨Nat.zero_le _, Nat.zero_le _⟩) hS (fun q _ h => hFc q h) hFc (fun xr49 u t H1 locs ht hvm hw hB hz1 hk1 hS => ?_)
          obtain ⟨hP1, hD1⟩ := hB
          rw [ht] at hP1
          rw [hw]
          obtain ⟨hP, hD⟩ := va_join (wr := ([0, 1, 2, 3, 4, 12, 13, 14] : List Nat).filterMap (fun i => (wDp cy hQ aQ sdQ Q ++ wSt cy (aQ 3) aT (aQ 1) T ++ wNt cy (aQ 1) aG G ++ wSt cy (aQ 4) aU (aQ 1) (U_I, dk_upA (dk_upA U.2 1 U_1) 2 U_2) ++ wSe cy (aQ 8) aE E)[i]?)) (w1 := wSt cy (aQ 4) aU (aQ 1) (i49_0, dk_upA (dk_upA U.2 1 g49_1) 2 g49_2) ++ wNt cy (aQ 1) aG G) hP hD [9, 10, 11, 5, 6, 7, 8] [0, 1, 2, 3, 4, 12, 13, 14] rfl rfl (by decide) (by decide) hk1 hFc hP1 hD1
          generalize H1 = H at hP hS ⊢
          have hP : va_P D vwCl (wDp cy hQ aQ sdQ Q ++ wSt cy (aQ 3) aT (aQ 1) T ++ wNt cy (aQ 1) aG G ++ wSt cy (aQ 4) aU (aQ 1) (i49_0, dk_upA (dk_upA U.2 1 g49_1) 2 g49_2) ++ wSe cy (aQ 8) aE E) H := hP.sub [0, 1, 2, 3, 4, 11, 12, 13, 14, 8, 9, 10, 5, 6, 7] rfl
          have hD : va_D A (wDp cy hQ aQ sdQ Q ++ wSt cy (aQ 3) aT (aQ 1) T ++ wNt cy (aQ 1) aG G ++ wSt cy (aQ 4) aU (aQ 1) (i49_0, dk_upA (dk_upA U.2 1 g49_1) 2 g49_2) ++ wSe cy (aQ 8) aE E) := hD.sub [0, 1, 2, 3, 4, 11, 12, 13, 14, 8, 9, 10, 5, 6, 7] (by decide) rfl
          refine lv_pop hx hb dX5_fitsAllSeen_52 rfl ?_
          exact L53 x2 x3 i49_0 g49_1 g49_2 _ _ _ hP hD hS (lv_sub hl [0, 1, 2] rfl) hf
  unfold fX5_fitsAllSeen at hf
  refine lv_aload_n hx hb dX5_fitsAllSeen_0 rfl (lv_at hl 0 rfl) ?_
  refine va_get (D := D) (ci := 5) (v := .ref (aQ 8)) (C := RX5) (T := TX5) (N := 10) hx hb hts iX5_fitsAllSeen_X5 hown hK.1 hP 0 rfl rfl 8 (by decide) (hts (.fieldLink RX5 56 "DarkPlace" "seen" "LDarkPlace$Seen;") (List.mem_of_getElem? (i := 1) rfl)) (fun _ h9 => h9) rfl dX5_fitsAllSeen_1 ?_
  refine va_getN (D := D) (ci := 2) (v := .int (E.1 2)) (C := RX2) (T := TX2) (N := 3) hx hb hts iX5_fitsAllSeen_X2 hown hK.1 hP 12 rfl rfl 2 (by decide) (va_Nw.use rfl (hK.2 (.fieldLinkNest "DarkPlace" 208 "DarkPlace$Seen" "size" "I" "DarkPlace") (List.mem_of_getElem? (i := 15) rfl))) (fun _ h9 => h9) rfl dX5_fitsAllSeen_4 ?_
  refine dk_ine (tgt := 12) hx hb dX5_fitsAllSeen_7 (by decide) hf (fun hf => ?_) (fun hf => ?_)
  · refine lv_aload_n hx hb dX5_fitsAllSeen_12 rfl (lv_at hl 0 rfl) ?_
    refine va_get (D := D) (ci := 5) (v := .ref (aQ 4)) (C := RX5) (T := TX5) (N := 10) hx hb hts iX5_fitsAllSeen_X5 hown hK.1 hP 0 rfl rfl 4 (by decide) (hts (.fieldLink RX5 35 "DarkPlace" "trial" "LDarkPlace$Stand;") (List.mem_of_getElem? (i := 2) rfl)) (fun _ h9 => h9) rfl dX5_fitsAllSeen_13 ?_
    refine lv_aload_n hx hb dX5_fitsAllSeen_16 rfl (lv_at hl 0 rfl) ?_
    refine va_get (D := D) (ci := 5) (v := .ref (aQ 3)) (C := RX5) (T := TX5) (N := 10) hx hb hts iX5_fitsAllSeen_X5 hown hK.1 hP 0 rfl rfl 3 (by decide) (hts (.fieldLink RX5 31 "DarkPlace" "now" "LDarkPlace$Stand;") (List.mem_of_getElem? (i := 3) rfl)) (fun _ h9 => h9) rfl dX5_fitsAllSeen_17 ?_
    refine lv_iload_n hx hb dX5_fitsAllSeen_20 rfl (lv_at hl 1 rfl) ?_
    obtain ⟨⟨i21_0, g21_1, g21_2⟩, k21, hf⟩ := dk_bind hf
    dsimp only at hf
    have hPc := hP.sub (ws' := wSt cy (aQ 4) aU (aQ 1) U ++ wSt cy (aQ 3) aT (aQ 1) T) [9, 10, 11, 2, 3, 4] rfl
    have hDc := hD.sub (ws' := wSt cy (aQ 4) aU (aQ 1) U ++ wSt cy (aQ 3) aT (aQ 1) T) [9, 10, 11, 2, 3, 4] (by decide) rfl
    have hFc := va_free (wc := wSt cy (aQ 4) aU (aQ 1) U ++ wSt cy (aQ 3) aT (aQ 1) T) hD hS hA [9, 10, 11, 2, 3, 4] rfl
    refine va_callv (va_runV (As := [.ref (aQ 3), .int v1]) (rest := []) ⟨hx, hb, hml, hown, hts⟩ (kX3_suppose l D cy (aQ 4) aU (aQ 1) (aQ 3) aT (aQ 1) s.heap.size U T v1 i21_0 g21_1 g21_2 k21) (cwV 2 hts gX5_fitsAllSeen_X3_suppose rfl rfl rfl (by decide +kernel) ⟨Nat.le_of_ble_eq_true rfl, Nat.le_of_ble_eq_true rfl⟩) (dk_premV hK hPc hDc (ci := 3) (q0 := 0) rfl rfl) rfl rfl hl.1 rfl (lv_room (Nat.le_of_ble_eq_true rfl)) dX5_fitsAllSeen_21 ⟨Nat.zero_le _, Nat.zero_le _⟩) hS (fun q _ h => hFc q h) hFc (fun u t H1 locs ht hvm hw hB hz1 hk1 hS => ?_)
    obtain ⟨hP1, hD1⟩ := hB
    rw [ht] at hP1
    obtain ⟨hP, hD⟩ := va_join (wr := ([0, 1, 5, 6, 7, 8, 12, 13, 14] : List Nat).filterMap (fun i => (wDp cy hQ aQ sdQ Q ++ wSt cy (aQ 3) aT (aQ 1) T ++ wNt cy (aQ 1) aG G ++ wSt cy (aQ 4) aU (aQ 1) U ++ wSe cy (aQ 8) aE E)[i]?)) (w1 := wSt cy (aQ 4) aU (aQ 1) (i21_0, dk_upA (dk_upA U.2 1 g21_1) 2 g21_2) ++ wSt cy (aQ 3) aT (aQ 1) T) hP hD [9, 10, 11, 2, 3, 4] [0, 1, 5, 6, 7, 8, 12, 13, 14] rfl rfl (by decide) (by decide) hk1 hFc hP1 hD1
    generalize H1 = H at hP hS ⊢
    have hP : va_P D vwCl (wDp cy hQ aQ sdQ Q ++ wSt cy (aQ 3) aT (aQ 1) T ++ wNt cy (aQ 1) aG G ++ wSt cy (aQ 4) aU (aQ 1) (i21_0, dk_upA (dk_upA U.2 1 g21_1) 2 g21_2) ++ wSe cy (aQ 8) aE E) H := hP.sub [0, 1, 12, 13, 14, 2, 3, 4, 5, 9, 10, 11, 6, 7, 8] rfl
    have hD : va_D A (wDp cy hQ aQ sdQ Q ++ wSt cy (aQ 3) aT (aQ 1) T ++ wNt cy (aQ 1) aG G ++ wSt cy (aQ 4) aU (aQ 1) (i21_0, dk_upA (dk_upA U.2 1 g21_1) 2 g21_2) ++ wSe cy (aQ 8) aE E) := hD.sub [0, 1, 12, 13, 14, 2, 3, 4, 5, 9, 10, 11, 6, 7, 8] (by decide) rfl
    refine lv_aload_n hx hb dX5_fitsAllSeen_24 rfl (lv_at hl 0 rfl) ?_
    refine va_get (D := D) (ci := 5) (v := .ref (aQ 8)) (C := RX5) (T := TX5) (N := 10) hx hb hts iX5_fitsAllSeen_X5 hown hK.1 hP 0 rfl rfl 8 (by decide) (hts (.fieldLink RX5 56 "DarkPlace" "seen" "LDarkPlace$Seen;") (List.mem_of_getElem? (i := 1) rfl)) (fun _ h9 => h9) rfl dX5_fitsAllSeen_25 ?_
    obtain ⟨r28, k28, hf⟩ := dk_bind hf
    refine dk_ri (va_runV (As := []) (rest := []) ⟨hx, hb, hml, hown, hts⟩ (kX2_mostRounds l D cy (aQ 8) aE E r28 k28) (cwV 0 hts gX5_fitsAllSeen_X2_mostRounds rfl rfl rfl (by decide +kernel) ⟨Nat.le_of_ble_eq_true rfl, Nat.le_of_ble_eq_true rfl⟩) (dk_preV hK (hP.sub (ws' := wSe cy (aQ 8) aE E) [12, 13, 14] rfl) (ci := 2) (q0 := 0) rfl rfl) rfl rfl hl.1 rfl (lv_room (Nat.le_of_ble_eq_true rfl)) dX5_fitsAllSeen_28 ⟨Nat.zero_le _, Nat.zero_le _⟩) ?_
    refine lv_istore_n (lv' := [(2, .int r28), (0, .ref hQ), (1, .int v1)]) hx hb dX5_fitsAllSeen_31 rfl hl (by decide) rfl (fun ls hl => ?_)
    refine lv_iconst (v := 0) hx hb dX5_fitsAllSeen_32 (by decide) ?_
    refine lv_istore_n (lv' := [(3, .int 0), (2, .int r28), (0, .ref hQ), (1, .int v1)]) hx hb dX5_fitsAllSeen_33 rfl hl (by decide) rfl (fun ls hl => ?_)
    exact L34 1000 r28 0 i21_0 g21_1 g21_2 _ _ _ hP hD hS (lv_sub hl [2, 1, 0] rfl) hf
  · refine lv_iconst (v := 1) hx hb dX5_fitsAllSeen_10 (by decide) ?_
    have e := Option.some.inj hf
    simp only [Prod.mk.injEq] at e
    obtain ⟨e0, e1, e2, e3⟩ := e
    subst e1
    subst e2
    subst e3
    exact W.zret (v := 1) hx hb hr rfl (fun t ht hW => ⟨⟨1, (), rfl, e0, by rw [ht]; exact hP, hD⟩, hS.F ht⟩) hS.2.2 dX5_fitsAllSeen_11
theorem iX5_which_X5 : ∀ w ∈ wsX50, w ∈ wsX5_which := fun _ h => List.mem_cons_of_mem _ (List.mem_append_left _ (List.mem_append_left _ (List.mem_append_left _ (List.mem_append_right _ h))))
set_option maxHeartbeats 4000000 in
set_option maxRecDepth 100000 in
theorem kX5_which (l : Launch) (D : va_G) (cy : Nat → ClassId) (hQ : Nat) (aQ : Nat → Nat) (sdQ : Int64) (aT : Nat → Nat) (aG : Nat → Nat) (aU : Nat → Nat) (aE : Nat → Nat) (sz : Nat) (Q : dk_O) (T : dk_O) (G : dk_O) (U : dk_O) (E : dk_O)  (r : Int32) (oU_I : (Nat → Int32)) (oU_1 : (Nat → Int32)) (oU_2 : (Nat → Int32)) (hf : fX5_which Q T G U E = some (r, oU_I, oU_1, oU_2)) : dk_MuI l yX5_which wsX5_which ({ frames := 5, cells := 0, slots := 0, locals := 119 }) D cy [.ref hQ] (wDp cy hQ aQ sdQ Q ++ wSt cy (aQ 3) aT (aQ 1) T ++ wNt cy (aQ 1) aG G ++ wSt cy (aQ 4) aU (aQ 1) U ++ wSe cy (aQ 8) aE E) (wDp cy hQ aQ sdQ Q ++ wSt cy (aQ 3) aT (aQ 1) T ++ wNt cy (aQ 1) aG G ++ wSt cy (aQ 4) aU (aQ 1) (oU_I, dk_upA (dk_upA U.2 1 oU_1) 2 oU_2) ++ wSe cy (aQ 8) aE E) sz r := by
  refine Met.ofW (cc := cX5_which) (maxL := 4) (ret := (some .int)) (by decide) rfl ?_
  intro p e s m args below meth c s₁ B hml hv
  obtain ⟨rfl, hsz, hP, hK, hD0⟩ := hv
  have hx := B.exec
  have hb := B.bytes
  have hr := B.returns
  have hts := atoms_spec (ws := wsX5_which) B.pre
  have hown : s.vm.findClass RX5 = some m.cls := findClass_of_methodNamed B.named
  have hlocks := B.notSynchronized
  subst hsz
  have hD := hD0.self (sz := s.heap.size)
  generalize hAe : va_A (wDp cy hQ aQ sdQ Q ++ wSt cy (aQ 3) aT (aQ 1) T ++ wNt cy (aQ 1) aG G ++ wSt cy (aQ 4) aU (aQ 1) U ++ wSe cy (aQ 8) aE E) s.heap.size = A at hD ⊢
  have hA : ∀ q : Nat, s.heap.size ≤ q → A q := fun q h => by rw [← hAe]; exact Or.inr h
  have hS : va_S A s.heap s.heap [] := va_S.rf
  have hl := lv_entry ([.ref hQ]) (n := 4) (Nat.le_of_ble_eq_true rfl)
  rw [lg_entry_eq]
  generalize (lg_sl ([.ref hQ]) ++ List.replicate (4 - (lg_sl ([.ref hQ])).length) Slot.unset).toArray = ls at hl ⊢
  have hl : lv_has ls 4 [(0, .ref hQ)] := hl
  have L12 : ∀ (fu12 : Nat) (x1 : Int32) (x2 : Int32) (x3 : Int32) (U_I : (Nat → Int32)) (U_1 : (Nat → Int32)) (U_2 : (Nat → Int32)) (H : Heap) (locs : List Loc) (ls : Array Slot), va_P D vwCl (wDp cy hQ aQ sdQ Q ++ wSt cy (aQ 3) aT (aQ 1) T ++ wNt cy (aQ 1) aG G ++ wSt cy (aQ 4) aU (aQ 1) (U_I, dk_upA (dk_upA U.2 1 U_1) 2 U_2) ++ wSe cy (aQ 8) aE E) H → va_D A (wDp cy hQ aQ sdQ Q ++ wSt cy (aQ 3) aT (aQ 1) T ++ wNt cy (aQ 1) aG G ++ wSt cy (aQ 4) aU (aQ 1) (U_I, dk_upA (dk_upA U.2 1 U_1) 2 U_2) ++ wSe cy (aQ 8) aE E) → va_S A s.heap H locs → lv_has ls 4 [(0, .ref hQ), (1, .int x1), (2, .int x2), (3, .int x3)] → fX5_which_L12 Q T G U E fu12 x1 x2 x3 U_I U_1 U_2 = some (r, oU_I, oU_1, oU_2) → W p l e (headSpec wsX5_which ({ frames := 5, cells := 0, slots := 0, locals := 119 })).room s m ([.ref hQ]).toArray below meth c H locs 0 0 (MQ below (va_Qi (fun (x : Int32) (_ : Unit) => x = r) (dk_B D (wDp cy hQ aQ sdQ Q ++ wSt cy (aQ 3) aT (aQ 1) T ++ wNt cy (aQ 1) aG G ++ wSt cy (aQ 4) aU (aQ 1) (oU_I, dk_upA (dk_upA U.2 1 oU_1) 2 oU_2) ++ wSe cy (aQ 8) aE E) A) A) ([.ref hQ]).toArray s 0 0 A) (F0 m 12 ls []) := by
    intro fu12
    induction fu12 with
    | zero =>
      intro x1 x2 x3 U_I U_1 U_2 H locs ls hP hD hS hl hf
      rw [fX5_which_L12] at hf
      cases hf
    | succ fu12 ih12 =>
      intro x1 x2 x3 U_I U_1 U_2 H locs ls hP hD hS hl hf
      rw [fX5_which_L12] at hf
      refine lv_iload_n hx hb dX5_which_12 rfl (lv_at hl 3 rfl) ?_
      refine lv_bipush (v := 8) hx hb dX5_which_13 (by decide) ?_
      refine dk_cge (tgt := 46) hx hb dX5_which_15 (by decide) hf (fun hf => ?_) (fun hf => ?_)
      · refine lv_iload_n hx hb dX5_which_46 rfl (lv_at hl 2 rfl) ?_
        have e := Option.some.inj hf
        simp only [Prod.mk.injEq] at e
        obtain ⟨e0, e1, e2, e3⟩ := e
        subst e1
        subst e2
        subst e3
        exact W.iret (v := x2) hx hb hr (fun t ht hW => ⟨⟨x2, (), rfl, e0, by rw [ht]; exact hP, hD⟩, hS.F ht⟩) hS.2.2 dX5_which_47
      · refine lv_iload_n hx hb dX5_which_18 rfl (lv_at hl 1 rfl) ?_
        refine lv_iload_n hx hb dX5_which_19 rfl (lv_at hl 3 rfl) ?_
        obtain ⟨r20, k20, hf⟩ := dk_bind hf
        refine dk_ri (va_runS (As := [.int x1, .int x3]) (rest := []) ⟨hx, hb, hml, hown, hts⟩ (kX5_holds l D cy x1 x3 r20 k20) (va_cwS 2 hts gX5_which_X5_holds rfl rfl rfl (by decide +kernel) ⟨Nat.le_of_ble_eq_true rfl, Nat.le_of_ble_eq_true rfl⟩) (dk_preS hK (hP.sub (ws' := []) [] rfl)) rfl rfl hl.1 rfl (lv_room (Nat.le_of_ble_eq_true rfl)) dX5_which_20 ⟨Nat.zero_le _, Nat.zero_le _⟩) ?_
        refine dk_ieq (tgt := 40) hx hb dX5_which_23 (by decide) hf (fun hf => ?_) (fun hf => ?_)
        · refine lv_iinc (v := x3 + 1) (lv' := [(3, .int (x3 + 1)), (0, .ref hQ), (1, .int x1), (2, .int x2)]) hx hb dX5_which_40 hl (k := 3) rfl rfl (by decide) rfl (fun ls hl => ?_)
          refine lv_goto (tgt := 12) hx hb dX5_which_43 (by decide) ?_
          exact ih12 x1 x2 (x3 + 1) U_I U_1 U_2 _ _ _ hP hD hS (lv_sub hl [1, 2, 3, 0] rfl) hf
        · refine lv_aload_n hx hb dX5_which_26 rfl (lv_at hl 0 rfl) ?_
          refine lv_iload_n hx hb dX5_which_27 rfl (lv_at hl 3 rfl) ?_
          obtain ⟨⟨r28, i28_0, g28_1, g28_2⟩, k28, hf⟩ := dk_bind hf
          dsimp only at hf
          have hPc := hP.sub (ws' := wDp cy hQ aQ sdQ Q ++ wSt cy (aQ 3) aT (aQ 1) T ++ wNt cy (aQ 1) aG G ++ wSt cy (aQ 4) aU (aQ 1) (U_I, dk_upA (dk_upA U.2 1 U_1) 2 U_2) ++ wSe cy (aQ 8) aE E) [0, 1, 2, 3, 4, 5, 6, 7, 8, 9, 10, 11, 12, 13, 14] rfl
          have hDc := hD.sub (ws' := wDp cy hQ aQ sdQ Q ++ wSt cy (aQ 3) aT (aQ 1) T ++ wNt cy (aQ 1) aG G ++ wSt cy (aQ 4) aU (aQ 1) (U_I, dk_upA (dk_upA U.2 1 U_1) 2 U_2) ++ wSe cy (aQ 8) aE E) [0, 1, 2, 3, 4, 5, 6, 7, 8, 9, 10, 11, 12, 13, 14] (by decide) rfl
          have hFc := va_free (wc := wDp cy hQ aQ sdQ Q ++ wSt cy (aQ 3) aT (aQ 1) T ++ wNt cy (aQ 1) aG G ++ wSt cy (aQ 4) aU (aQ 1) (U_I, dk_upA (dk_upA U.2 1 U_1) 2 U_2) ++ wSe cy (aQ 8) aE E) hD hS hA [0, 1, 2, 3, 4, 5, 6, 7, 8, 9, 10, 11, 12, 13, 14] rfl
          refine va_calli (va_runV (As := [.int x3]) (rest := []) ⟨hx, hb, hml, hown, hts⟩ (kX5_fitsAllSeen l D cy hQ aQ sdQ aT aG aU aE H.size Q T G (U_I, dk_upA (dk_upA U.2 1 U_1) 2 U_2) E x3 r28 i28_0 g28_1 g28_2 k28) (cwV 1 hts gX5_which_X5_fitsAllSeen rfl rfl rfl (by decide +kernel) ⟨Nat.le_of_ble_eq_true rfl, Nat.le_of_ble_eq_true rfl⟩) (dk_premV hK hPc hDc (ci := 5) (q0 := 0) rfl rfl) rfl rfl hl.1 rfl (lv_room (Nat.le_of_ble_eq_true rfl)) dX5_which_28 ⟨Nat.zero_le _, Nat.zero_le _⟩) hS (fun q _ h => hFc q h) hFc (fun xr28 u t H1 locs ht hvm hw hB hz1 hk1 hS => ?_)
          obtain ⟨hP1, hD1⟩ := hB
          rw [ht] at hP1
          rw [hw]
          obtain ⟨hP, hD⟩ := va_join (wr := ([] : List Nat).filterMap (fun i => (wDp cy hQ aQ sdQ Q ++ wSt cy (aQ 3) aT (aQ 1) T ++ wNt cy (aQ 1) aG G ++ wSt cy (aQ 4) aU (aQ 1) (U_I, dk_upA (dk_upA U.2 1 U_1) 2 U_2) ++ wSe cy (aQ 8) aE E)[i]?)) (w1 := wDp cy hQ aQ sdQ Q ++ wSt cy (aQ 3) aT (aQ 1) T ++ wNt cy (aQ 1) aG G ++ wSt cy (aQ 4) aU (aQ 1) (i28_0, dk_upA (dk_upA U.2 1 g28_1) 2 g28_2) ++ wSe cy (aQ 8) aE E) hP hD [0, 1, 2, 3, 4, 5, 6, 7, 8, 9, 10, 11, 12, 13, 14] [] rfl rfl (by decide) (by decide) hk1 hFc hP1 hD1
          generalize H1 = H at hP hS ⊢
          have hP : va_P D vwCl (wDp cy hQ aQ sdQ Q ++ wSt cy (aQ 3) aT (aQ 1) T ++ wNt cy (aQ 1) aG G ++ wSt cy (aQ 4) aU (aQ 1) (i28_0, dk_upA (dk_upA U.2 1 g28_1) 2 g28_2) ++ wSe cy (aQ 8) aE E) H := hP.sub [0, 1, 2, 3, 4, 5, 6, 7, 8, 9, 10, 11, 12, 13, 14] rfl
          have hD : va_D A (wDp cy hQ aQ sdQ Q ++ wSt cy (aQ 3) aT (aQ 1) T ++ wNt cy (aQ 1) aG G ++ wSt cy (aQ 4) aU (aQ 1) (i28_0, dk_upA (dk_upA U.2 1 g28_1) 2 g28_2) ++ wSe cy (aQ 8) aE E) := hD.sub [0, 1, 2, 3, 4, 5, 6, 7, 8, 9, 10, 11, 12, 13, 14] (by decide) rfl
          refine dk_ieq (tgt := 40) hx hb dX5_which_31 (by decide) hf (fun hf => ?_) (fun hf => ?_)
          · refine lv_iinc (v := x3 + 1) (lv' := [(3, .int (x3 + 1)), (0, .ref hQ), (1, .int x1), (2, .int x2)]) hx hb dX5_which_40 hl (k := 3) rfl rfl (by decide) rfl (fun ls hl => ?_)
            refine lv_goto (tgt := 12) hx hb dX5_which_43 (by decide) ?_
            exact ih12 x1 x2 (x3 + 1) i28_0 g28_1 g28_2 _ _ _ hP hD hS (lv_sub hl [1, 2, 3, 0] rfl) hf
          · refine lv_iload_n hx hb dX5_which_34 rfl (lv_at hl 2 rfl) ?_
            refine lv_iconst (v := 1) hx hb dX5_which_35 (by decide) ?_
            refine lv_iload_n hx hb dX5_which_36 rfl (lv_at hl 3 rfl) ?_
            refine lv_ishl hx hb dX5_which_37 ?_
            refine lv_ior hx hb dX5_which_38 ?_
            refine lv_istore_n (lv' := [(2, .int (x2 ||| ((1 : Int32) <<< (x3 &&& 31)))), (0, .ref hQ), (1, .int x1), (3, .int x3)]) hx hb dX5_which_39 rfl hl (by decide) rfl (fun ls hl => ?_)
            refine lv_iinc (v := x3 + 1) (lv' := [(3, .int (x3 + 1)), (2, .int (x2 ||| ((1 : Int32) <<< (x3 &&& 31)))), (0, .ref hQ), (1, .int x1)]) hx hb dX5_which_40 hl (k := 3) rfl rfl (by decide) rfl (fun ls hl => ?_)
            refine lv_goto (tgt := 12) hx hb dX5_which_43 (by decide) ?_
            exact ih12 x1 (x2 ||| ((1 : Int32) <<< (x3 &&& 31))) (x3 + 1) i28_0 g28_1 g28_2 _ _ _ hP hD hS (lv_sub hl [2, 3, 1, 0] rfl) hf
  unfold fX5_which at hf
  refine lv_aload_n hx hb dX5_which_0 rfl (lv_at hl 0 rfl) ?_
  refine va_get (D := D) (ci := 5) (v := .ref (aQ 3)) (C := RX5) (T := TX5) (N := 10) hx hb hts iX5_which_X5 hown hK.1 hP 0 rfl rfl 3 (by decide) (hts (.fieldLink RX5 31 "DarkPlace" "now" "LDarkPlace$Stand;") (List.mem_of_getElem? (i := 1) rfl)) (fun _ h9 => h9) rfl dX5_which_1 ?_
  obtain ⟨r4, k4, hf⟩ := dk_bind hf
  refine dk_ri (va_runV (As := []) (rest := []) ⟨hx, hb, hml, hown, hts⟩ (kX3_fated l D cy (aQ 3) aT (aQ 1) aG T G r4 k4) (cwV 0 hts gX5_which_X3_fated rfl rfl rfl (by decide +kernel) ⟨Nat.le_of_ble_eq_true rfl, Nat.le_of_ble_eq_true rfl⟩) (dk_preV hK (hP.sub (ws' := wSt cy (aQ 3) aT (aQ 1) T ++ wNt cy (aQ 1) aG G) [2, 3, 4, 5, 6, 7, 8] rfl) (ci := 3) (q0 := 0) rfl rfl) rfl rfl hl.1 rfl (lv_room (Nat.le_of_ble_eq_true rfl)) dX5_which_4 ⟨Nat.zero_le _, Nat.zero_le _⟩) ?_
  refine lv_istore_n (lv' := [(1, .int r4), (0, .ref hQ)]) hx hb dX5_which_7 rfl hl (by decide) rfl (fun ls hl => ?_)
  refine lv_iconst (v := 0) hx hb dX5_which_8 (by decide) ?_
  refine lv_istore_n (lv' := [(2, .int 0), (1, .int r4), (0, .ref hQ)]) hx hb dX5_which_9 rfl hl (by decide) rfl (fun ls hl => ?_)
  refine lv_iconst (v := 0) hx hb dX5_which_10 (by decide) ?_
  refine lv_istore_n (lv' := [(3, .int 0), (2, .int 0), (1, .int r4), (0, .ref hQ)]) hx hb dX5_which_11 rfl hl (by decide) rfl (fun ls hl => ?_)
  exact L12 1000 r4 0 0 U.1 (U.2 1) (U.2 2) _ _ _ hP hD hS (lv_sub hl [3, 2, 1, 0] rfl) hf
theorem iX5_visitedBy_X3 : ∀ w ∈ wsX30, w ∈ wsX5_visitedBy := fun _ h => List.mem_cons_of_mem _ (List.mem_append_left _ (List.mem_append_right _ h))
theorem iX5_visitedBy_X5 : ∀ w ∈ wsX50, w ∈ wsX5_visitedBy := fun _ h => List.mem_cons_of_mem _ (List.mem_append_left _ (List.mem_append_left _ (List.mem_append_right _ h)))
set_option maxHeartbeats 4000000 in
set_option maxRecDepth 100000 in
theorem kX5_visitedBy (l : Launch) (D : va_G) (cy : Nat → ClassId) (hQ : Nat) (aQ : Nat → Nat) (sdQ : Int64) (aT : Nat → Nat) (aG : Nat → Nat) (aU : Nat → Nat) (sz : Nat) (Q : dk_O) (T : dk_O) (G : dk_O) (U : dk_O) (v1 : Int32) (r : Int32) (oU_I : (Nat → Int32)) (oU_1 : (Nat → Int32)) (oU_2 : (Nat → Int32)) (hf : fX5_visitedBy Q T G U v1 = some (r, oU_I, oU_1, oU_2)) : dk_MuI l yX5_visitedBy wsX5_visitedBy ({ frames := 4, cells := 0, slots := 0, locals := 96 }) D cy [.ref hQ, .int v1] (wDp cy hQ aQ sdQ Q ++ wSt cy (aQ 3) aT (aQ 1) T ++ wNt cy (aQ 1) aG G ++ wSt cy (aQ 4) aU (aQ 1) U) (wDp cy hQ aQ sdQ Q ++ wSt cy (aQ 3) aT (aQ 1) T ++ wNt cy (aQ 1) aG G ++ wSt cy (aQ 4) aU (aQ 1) (oU_I, dk_upA (dk_upA U.2 1 oU_1) 2 oU_2)) sz r := by
  refine Met.ofW (cc := cX5_visitedBy) (maxL := 3) (ret := (some .int)) (by decide) rfl ?_
  intro p e s m args below meth c s₁ B hml hv
  obtain ⟨rfl, hsz, hP, hK, hD0⟩ := hv
  have hx := B.exec
  have hb := B.bytes
  have hr := B.returns
  have hts := atoms_spec (ws := wsX5_visitedBy) B.pre
  have hown : s.vm.findClass RX5 = some m.cls := findClass_of_methodNamed B.named
  have hlocks := B.notSynchronized
  subst hsz
  have hD := hD0.self (sz := s.heap.size)
  generalize hAe : va_A (wDp cy hQ aQ sdQ Q ++ wSt cy (aQ 3) aT (aQ 1) T ++ wNt cy (aQ 1) aG G ++ wSt cy (aQ 4) aU (aQ 1) U) s.heap.size = A at hD ⊢
  have hA : ∀ q : Nat, s.heap.size ≤ q → A q := fun q h => by rw [← hAe]; exact Or.inr h
  have hS : va_S A s.heap s.heap [] := va_S.rf
  have hl := lv_entry ([.ref hQ, .int v1]) (n := 3) (Nat.le_of_ble_eq_true rfl)
  rw [lg_entry_eq]
  generalize (lg_sl ([.ref hQ, .int v1]) ++ List.replicate (3 - (lg_sl ([.ref hQ, .int v1])).length) Slot.unset).toArray = ls at hl ⊢
  have hl : lv_has ls 3 [(0, .ref hQ), (1, .int v1)] := hl
  have L13 : ∀ (fu13 : Nat) (x1 : Int32) (x2 : Int32) (U_I : (Nat → Int32)) (U_1 : (Nat → Int32)) (U_2 : (Nat → Int32)) (H : Heap) (locs : List Loc) (ls : Array Slot), va_P D vwCl (wDp cy hQ aQ sdQ Q ++ wSt cy (aQ 3) aT (aQ 1) T ++ wNt cy (aQ 1) aG G ++ wSt cy (aQ 4) aU (aQ 1) (U_I, dk_upA (dk_upA U.2 1 U_1) 2 U_2)) H → va_D A (wDp cy hQ aQ sdQ Q ++ wSt cy (aQ 3) aT (aQ 1) T ++ wNt cy (aQ 1) aG G ++ wSt cy (aQ 4) aU (aQ 1) (U_I, dk_upA (dk_upA U.2 1 U_1) 2 U_2)) → va_S A s.heap H locs → lv_has ls 3 [(0, .ref hQ), (1, .int x1), (2, .int x2)] → fX5_visitedBy_L13 Q T G U fu13 x1 x2 U_I U_1 U_2 = some (r, oU_I, oU_1, oU_2) → W p l e (headSpec wsX5_visitedBy ({ frames := 4, cells := 0, slots := 0, locals := 96 })).room s m ([.ref hQ, .int v1]).toArray below meth c H locs 0 0 (MQ below (va_Qi (fun (x : Int32) (_ : Unit) => x = r) (dk_B D (wDp cy hQ aQ sdQ Q ++ wSt cy (aQ 3) aT (aQ 1) T ++ wNt cy (aQ 1) aG G ++ wSt cy (aQ 4) aU (aQ 1) (oU_I, dk_upA (dk_upA U.2 1 oU_1) 2 oU_2)) A) A) ([.ref hQ, .int v1]).toArray s 0 0 A) (F0 m 13 ls []) := by
    intro fu13
    induction fu13 with
    | zero =>
      intro x1 x2 U_I U_1 U_2 H locs ls hP hD hS hl hf
      rw [fX5_visitedBy_L13] at hf
      cases hf
    | succ fu13 ih13 =>
      intro x1 x2 U_I U_1 U_2 H locs ls hP hD hS hl hf
      rw [fX5_visitedBy_L13] at hf
      refine lv_iload_n hx hb dX5_visitedBy_13 rfl (lv_at hl 2 rfl) ?_
      refine lv_bipush (v := 6) hx hb dX5_visitedBy_14 (by decide) ?_
      refine dk_cge (tgt := 34) hx hb dX5_visitedBy_16 (by decide) hf (fun hf => ?_) (fun hf => ?_)
      · refine lv_aload_n hx hb dX5_visitedBy_34 rfl (lv_at hl 0 rfl) ?_
        refine va_get (D := D) (ci := 5) (v := .ref (aQ 4)) (C := RX5) (T := TX5) (N := 10) hx hb hts iX5_visitedBy_X5 hown hK.1 hP 0 rfl rfl 4 (by decide) (hts (.fieldLink RX5 35 "DarkPlace" "trial" "LDarkPlace$Stand;") (List.mem_of_getElem? (i := 1) rfl)) (fun _ h9 => h9) rfl dX5_visitedBy_35 ?_
        refine va_getN (D := D) (ci := 3) (v := .int (U_I 8)) (C := RX3) (T := TX3) (N := 9) hx hb hts iX5_visitedBy_X3 hown hK.1 hP 9 rfl rfl 8 (by decide) (va_Nw.use rfl (hK.2 (.fieldLinkNest "DarkPlace" 171 "DarkPlace$Stand" "visited" "I" "DarkPlace") (List.mem_of_getElem? (i := 13) rfl))) (fun _ h9 => h9) rfl dX5_visitedBy_38 ?_
        obtain ⟨r41, k41, hf⟩ := dk_bind hf
        refine dk_ri (va_runS (As := [.int (U_I 8)]) (rest := []) ⟨hx, hb, hml, hown, hts⟩ (kJ6_bitCount_0f7a4 l D cy (U_I 8) r41 k41) (va_cwS 1 hts gX5_visitedBy_J6_bitCount_0f7a4 rfl rfl rfl (by decide +kernel) ⟨Nat.le_of_ble_eq_true rfl, Nat.le_of_ble_eq_true rfl⟩) (dk_preS hK (hP.sub (ws' := []) [] rfl)) rfl rfl hl.1 rfl (lv_room (Nat.le_of_ble_eq_true rfl)) dX5_visitedBy_41 ⟨Nat.zero_le _, Nat.zero_le _⟩) ?_
        have e := Option.some.inj hf
        simp only [Prod.mk.injEq] at e
        obtain ⟨e0, e1, e2, e3⟩ := e
        subst e1
        subst e2
        subst e3
        exact W.iret (v := r41) hx hb hr (fun t ht hW => ⟨⟨r41, (), rfl, e0, by rw [ht]; exact hP, hD⟩, hS.F ht⟩) hS.2.2 dX5_visitedBy_44
      · refine lv_aload_n hx hb dX5_visitedBy_19 rfl (lv_at hl 0 rfl) ?_
        refine va_get (D := D) (ci := 5) (v := .ref (aQ 4)) (C := RX5) (T := TX5) (N := 10) hx hb hts iX5_visitedBy_X5 hown hK.1 hP 0 rfl rfl 4 (by decide) (hts (.fieldLink RX5 35 "DarkPlace" "trial" "LDarkPlace$Stand;") (List.mem_of_getElem? (i := 1) rfl)) (fun _ h9 => h9) rfl dX5_visitedBy_20 ?_
        refine lv_iload_n hx hb dX5_visitedBy_23 rfl (lv_at hl 1 rfl) ?_
        obtain ⟨⟨r24, i24_0, g24_1, g24_2⟩, k24, hf⟩ := dk_bind hf
        dsimp only at hf
        have hPc := hP.sub (ws' := wSt cy (aQ 4) aU (aQ 1) (U_I, dk_upA (dk_upA U.2 1 U_1) 2 U_2) ++ wNt cy (aQ 1) aG G) [9, 10, 11, 5, 6, 7, 8] rfl
        have hDc := hD.sub (ws' := wSt cy (aQ 4) aU (aQ 1) (U_I, dk_upA (dk_upA U.2 1 U_1) 2 U_2) ++ wNt cy (aQ 1) aG G) [9, 10, 11, 5, 6, 7, 8] (by decide) rfl
        have hFc := va_free (wc := wSt cy (aQ 4) aU (aQ 1) (U_I, dk_upA (dk_upA U.2 1 U_1) 2 U_2) ++ wNt cy (aQ 1) aG G) hD hS hA [9, 10, 11, 5, 6, 7, 8] rfl
        refine va_calli (va_runV (As := [.int x1]) (rest := []) ⟨hx, hb, hml, hown, hts⟩ (kX3_playRound l D cy (aQ 4) aU (aQ 1) aG H.size (U_I, dk_upA (dk_upA U.2 1 U_1) 2 U_2) G x1 r24 i24_0 g24_1 g24_2 k24) (cwV 1 hts gX5_visitedBy_X3_playRound rfl rfl rfl (by decide +kernel) ⟨Nat.le_of_ble_eq_true rfl, Nat.le_of_ble_eq_true rfl⟩) (dk_premV hK hPc hDc (ci := 3) (q0 := 0) rfl rfl) rfl rfl hl.1 rfl (lv_room (Nat.le_of_ble_eq_true rfl)) dX5_visitedBy_24 ⟨Nat.zero_le _, Nat.zero_le _⟩) hS (fun q _ h => hFc q h) hFc (fun xr24 u t H1 locs ht hvm hw hB hz1 hk1 hS => ?_)
        obtain ⟨hP1, hD1⟩ := hB
        rw [ht] at hP1
        rw [hw]
        obtain ⟨hP, hD⟩ := va_join (wr := ([0, 1, 2, 3, 4] : List Nat).filterMap (fun i => (wDp cy hQ aQ sdQ Q ++ wSt cy (aQ 3) aT (aQ 1) T ++ wNt cy (aQ 1) aG G ++ wSt cy (aQ 4) aU (aQ 1) (U_I, dk_upA (dk_upA U.2 1 U_1) 2 U_2))[i]?)) (w1 := wSt cy (aQ 4) aU (aQ 1) (i24_0, dk_upA (dk_upA U.2 1 g24_1) 2 g24_2) ++ wNt cy (aQ 1) aG G) hP hD [9, 10, 11, 5, 6, 7, 8] [0, 1, 2, 3, 4] rfl rfl (by decide) (by decide) hk1 hFc hP1 hD1
        generalize H1 = H at hP hS ⊢
        have hP : va_P D vwCl (wDp cy hQ aQ sdQ Q ++ wSt cy (aQ 3) aT (aQ 1) T ++ wNt cy (aQ 1) aG G ++ wSt cy (aQ 4) aU (aQ 1) (i24_0, dk_upA (dk_upA U.2 1 g24_1) 2 g24_2)) H := hP.sub [0, 1, 2, 3, 4, 8, 9, 10, 11, 5, 6, 7] rfl
        have hD : va_D A (wDp cy hQ aQ sdQ Q ++ wSt cy (aQ 3) aT (aQ 1) T ++ wNt cy (aQ 1) aG G ++ wSt cy (aQ 4) aU (aQ 1) (i24_0, dk_upA (dk_upA U.2 1 g24_1) 2 g24_2)) := hD.sub [0, 1, 2, 3, 4, 8, 9, 10, 11, 5, 6, 7] (by decide) rfl
        refine lv_pop hx hb dX5_visitedBy_27 rfl ?_
        refine lv_iinc (v := x2 + 1) (lv' := [(2, .int (x2 + 1)), (0, .ref hQ), (1, .int x1)]) hx hb dX5_visitedBy_28 hl (k := 2) rfl rfl (by decide) rfl (fun ls hl => ?_)
        refine lv_goto (tgt := 13) hx hb dX5_visitedBy_31 (by decide) ?_
        exact ih13 x1 (x2 + 1) i24_0 g24_1 g24_2 _ _ _ hP hD hS (lv_sub hl [1, 2, 0] rfl) hf
  unfold fX5_visitedBy at hf
  refine lv_aload_n hx hb dX5_visitedBy_0 rfl (lv_at hl 0 rfl) ?_
  refine va_get (D := D) (ci := 5) (v := .ref (aQ 4)) (C := RX5) (T := TX5) (N := 10) hx hb hts iX5_visitedBy_X5 hown hK.1 hP 0 rfl rfl 4 (by decide) (hts (.fieldLink RX5 35 "DarkPlace" "trial" "LDarkPlace$Stand;") (List.mem_of_getElem? (i := 1) rfl)) (fun _ h9 => h9) rfl dX5_visitedBy_1 ?_
  refine lv_aload_n hx hb dX5_visitedBy_4 rfl (lv_at hl 0 rfl) ?_
  refine va_get (D := D) (ci := 5) (v := .ref (aQ 3)) (C := RX5) (T := TX5) (N := 10) hx hb hts iX5_visitedBy_X5 hown hK.1 hP 0 rfl rfl 3 (by decide) (hts (.fieldLink RX5 31 "DarkPlace" "now" "LDarkPlace$Stand;") (List.mem_of_getElem? (i := 2) rfl)) (fun _ h9 => h9) rfl dX5_visitedBy_5 ?_
  obtain ⟨⟨i8_0, g8_1, g8_2⟩, k8, hf⟩ := dk_bind hf
  dsimp only at hf
  have hPc := hP.sub (ws' := wSt cy (aQ 4) aU (aQ 1) U ++ wSt cy (aQ 3) aT (aQ 1) T) [9, 10, 11, 2, 3, 4] rfl
  have hDc := hD.sub (ws' := wSt cy (aQ 4) aU (aQ 1) U ++ wSt cy (aQ 3) aT (aQ 1) T) [9, 10, 11, 2, 3, 4] (by decide) rfl
  have hFc := va_free (wc := wSt cy (aQ 4) aU (aQ 1) U ++ wSt cy (aQ 3) aT (aQ 1) T) hD hS hA [9, 10, 11, 2, 3, 4] rfl
  refine va_callv (va_runV (As := [.ref (aQ 3)]) (rest := []) ⟨hx, hb, hml, hown, hts⟩ (kX3_become l D cy (aQ 4) aU (aQ 1) (aQ 3) aT (aQ 1) s.heap.size U T i8_0 g8_1 g8_2 k8) (cwV 1 hts gX5_visitedBy_X3_become rfl rfl rfl (by decide +kernel) ⟨Nat.le_of_ble_eq_true rfl, Nat.le_of_ble_eq_true rfl⟩) (dk_premV hK hPc hDc (ci := 3) (q0 := 0) rfl rfl) rfl rfl hl.1 rfl (lv_room (Nat.le_of_ble_eq_true rfl)) dX5_visitedBy_8 ⟨Nat.zero_le _, Nat.zero_le _⟩) hS (fun q _ h => hFc q h) hFc (fun u t H1 locs ht hvm hw hB hz1 hk1 hS => ?_)
  obtain ⟨hP1, hD1⟩ := hB
  rw [ht] at hP1
  obtain ⟨hP, hD⟩ := va_join (wr := ([0, 1, 5, 6, 7, 8] : List Nat).filterMap (fun i => (wDp cy hQ aQ sdQ Q ++ wSt cy (aQ 3) aT (aQ 1) T ++ wNt cy (aQ 1) aG G ++ wSt cy (aQ 4) aU (aQ 1) U)[i]?)) (w1 := wSt cy (aQ 4) aU (aQ 1) (i8_0, dk_upA (dk_upA U.2 1 g8_1) 2 g8_2) ++ wSt cy (aQ 3) aT (aQ 1) T) hP hD [9, 10, 11, 2, 3, 4] [0, 1, 5, 6, 7, 8] rfl rfl (by decide) (by decide) hk1 hFc hP1 hD1
  generalize H1 = H at hP hS ⊢
  have hP : va_P D vwCl (wDp cy hQ aQ sdQ Q ++ wSt cy (aQ 3) aT (aQ 1) T ++ wNt cy (aQ 1) aG G ++ wSt cy (aQ 4) aU (aQ 1) (i8_0, dk_upA (dk_upA U.2 1 g8_1) 2 g8_2)) H := hP.sub [0, 1, 9, 10, 11, 2, 3, 4, 5, 6, 7, 8] rfl
  have hD : va_D A (wDp cy hQ aQ sdQ Q ++ wSt cy (aQ 3) aT (aQ 1) T ++ wNt cy (aQ 1) aG G ++ wSt cy (aQ 4) aU (aQ 1) (i8_0, dk_upA (dk_upA U.2 1 g8_1) 2 g8_2)) := hD.sub [0, 1, 9, 10, 11, 2, 3, 4, 5, 6, 7, 8] (by decide) rfl
  refine lv_iconst (v := 0) hx hb dX5_visitedBy_11 (by decide) ?_
  refine lv_istore_n (lv' := [(2, .int 0), (0, .ref hQ), (1, .int v1)]) hx hb dX5_visitedBy_12 rfl hl (by decide) rfl (fun ls hl => ?_)
  exact L13 1000 v1 0 i8_0 g8_1 g8_2 _ _ _ hP hD hS (lv_sub hl [1, 2, 0] rfl) hf
theorem iX5_livingBehind_X5 : ∀ w ∈ wsX50, w ∈ wsX5_livingBehind := fun _ h => List.mem_cons_of_mem _ (List.mem_append_left _ (List.mem_append_left _ (List.mem_append_right _ h)))
set_option maxHeartbeats 4000000 in
set_option maxRecDepth 100000 in
theorem kX5_livingBehind (l : Launch) (D : va_G) (cy : Nat → ClassId) (hQ : Nat) (aQ : Nat → Nat) (sdQ : Int64) (aT : Nat → Nat) (aG : Nat → Nat) (aU : Nat → Nat) (sz : Nat) (Q : dk_O) (T : dk_O) (G : dk_O) (U : dk_O) (v1 : Int32) (v2 : Int32) (r : Int32) (oU_I : (Nat → Int32)) (oU_1 : (Nat → Int32)) (oU_2 : (Nat → Int32)) (hf : fX5_livingBehind Q T G U v1 v2 = some (r, oU_I, oU_1, oU_2)) : dk_MuI l yX5_livingBehind wsX5_livingBehind ({ frames := 4, cells := 0, slots := 0, locals := 96 }) D cy [.ref hQ, .int v1, .int v2] (wDp cy hQ aQ sdQ Q ++ wSt cy (aQ 3) aT (aQ 1) T ++ wNt cy (aQ 1) aG G ++ wSt cy (aQ 4) aU (aQ 1) U) (wDp cy hQ aQ sdQ Q ++ wSt cy (aQ 3) aT (aQ 1) T ++ wNt cy (aQ 1) aG G ++ wSt cy (aQ 4) aU (aQ 1) (oU_I, dk_upA (dk_upA U.2 1 oU_1) 2 oU_2)) sz r := by
  refine Met.ofW (cc := cX5_livingBehind) (maxL := 4) (ret := (some .int)) (by decide) rfl ?_
  intro p e s m args below meth c s₁ B hml hv
  obtain ⟨rfl, hsz, hP, hK, hD0⟩ := hv
  have hx := B.exec
  have hb := B.bytes
  have hr := B.returns
  have hts := atoms_spec (ws := wsX5_livingBehind) B.pre
  have hown : s.vm.findClass RX5 = some m.cls := findClass_of_methodNamed B.named
  have hlocks := B.notSynchronized
  subst hsz
  have hD := hD0.self (sz := s.heap.size)
  generalize hAe : va_A (wDp cy hQ aQ sdQ Q ++ wSt cy (aQ 3) aT (aQ 1) T ++ wNt cy (aQ 1) aG G ++ wSt cy (aQ 4) aU (aQ 1) U) s.heap.size = A at hD ⊢
  have hA : ∀ q : Nat, s.heap.size ≤ q → A q := fun q h => by rw [← hAe]; exact Or.inr h
  have hS : va_S A s.heap s.heap [] := va_S.rf
  have hl := lv_entry ([.ref hQ, .int v1, .int v2]) (n := 4) (Nat.le_of_ble_eq_true rfl)
  rw [lg_entry_eq]
  generalize (lg_sl ([.ref hQ, .int v1, .int v2]) ++ List.replicate (4 - (lg_sl ([.ref hQ, .int v1, .int v2])).length) Slot.unset).toArray = ls at hl ⊢
  have hl : lv_has ls 4 [(0, .ref hQ), (1, .int v1), (2, .int v2)] := hl
  have L14 : ∀ (fu14 : Nat) (x2 : Int32) (x3 : Int32) (U_I : (Nat → Int32)) (U_1 : (Nat → Int32)) (U_2 : (Nat → Int32)) (H : Heap) (locs : List Loc) (ls : Array Slot), va_P D vwCl (wDp cy hQ aQ sdQ Q ++ wSt cy (aQ 3) aT (aQ 1) T ++ wNt cy (aQ 1) aG G ++ wSt cy (aQ 4) aU (aQ 1) (U_I, dk_upA (dk_upA U.2 1 U_1) 2 U_2)) H → va_D A (wDp cy hQ aQ sdQ Q ++ wSt cy (aQ 3) aT (aQ 1) T ++ wNt cy (aQ 1) aG G ++ wSt cy (aQ 4) aU (aQ 1) (U_I, dk_upA (dk_upA U.2 1 U_1) 2 U_2)) → va_S A s.heap H locs → lv_has ls 4 [(0, .ref hQ), (2, .int x2), (3, .int x3)] → fX5_livingBehind_L14 Q T G U fu14 x2 x3 U_I U_1 U_2 = some (r, oU_I, oU_1, oU_2) → W p l e (headSpec wsX5_livingBehind ({ frames := 4, cells := 0, slots := 0, locals := 96 })).room s m ([.ref hQ, .int v1, .int v2]).toArray below meth c H locs 0 0 (MQ below (va_Qi (fun (x : Int32) (_ : Unit) => x = r) (dk_B D (wDp cy hQ aQ sdQ Q ++ wSt cy (aQ 3) aT (aQ 1) T ++ wNt cy (aQ 1) aG G ++ wSt cy (aQ 4) aU (aQ 1) (oU_I, dk_upA (dk_upA U.2 1 oU_1) 2 oU_2)) A) A) ([.ref hQ, .int v1, .int v2]).toArray s 0 0 A) (F0 m 14 ls []) := by
    intro fu14
    induction fu14 with
    | zero =>
      intro x2 x3 U_I U_1 U_2 H locs ls hP hD hS hl hf
      rw [fX5_livingBehind_L14] at hf
      cases hf
    | succ fu14 ih14 =>
      intro x2 x3 U_I U_1 U_2 H locs ls hP hD hS hl hf
      rw [fX5_livingBehind_L14] at hf
      refine lv_iload_n hx hb dX5_livingBehind_14 rfl (lv_at hl 2 rfl) ?_
      refine lv_iload_n hx hb dX5_livingBehind_15 rfl (lv_at hl 1 rfl) ?_
      refine dk_cge (tgt := 35) hx hb dX5_livingBehind_16 (by decide) hf (fun hf => ?_) (fun hf => ?_)
      · refine lv_aload_n hx hb dX5_livingBehind_35 rfl (lv_at hl 0 rfl) ?_
        refine va_get (D := D) (ci := 5) (v := .ref (aQ 4)) (C := RX5) (T := TX5) (N := 10) hx hb hts iX5_livingBehind_X5 hown hK.1 hP 0 rfl rfl 4 (by decide) (hts (.fieldLink RX5 35 "DarkPlace" "trial" "LDarkPlace$Stand;") (List.mem_of_getElem? (i := 1) rfl)) (fun _ h9 => h9) rfl dX5_livingBehind_36 ?_
        obtain ⟨r39, k39, hf⟩ := dk_bind hf
        refine dk_ri (va_runV (As := []) (rest := []) ⟨hx, hb, hml, hown, hts⟩ (kX3_living l D cy (aQ 4) aU (aQ 1) aG (U_I, dk_upA (dk_upA U.2 1 U_1) 2 U_2) G r39 k39) (cwV 0 hts gX5_livingBehind_X3_living rfl rfl rfl (by decide +kernel) ⟨Nat.le_of_ble_eq_true rfl, Nat.le_of_ble_eq_true rfl⟩) (dk_preV hK (hP.sub (ws' := wSt cy (aQ 4) aU (aQ 1) (U_I, dk_upA (dk_upA U.2 1 U_1) 2 U_2) ++ wNt cy (aQ 1) aG G) [9, 10, 11, 5, 6, 7, 8] rfl) (ci := 3) (q0 := 0) rfl rfl) rfl rfl hl.1 rfl (lv_room (Nat.le_of_ble_eq_true rfl)) dX5_livingBehind_39 ⟨Nat.zero_le _, Nat.zero_le _⟩) ?_
        have e := Option.some.inj hf
        simp only [Prod.mk.injEq] at e
        obtain ⟨e0, e1, e2, e3⟩ := e
        subst e1
        subst e2
        subst e3
        exact W.iret (v := r39) hx hb hr (fun t ht hW => ⟨⟨r39, (), rfl, e0, by rw [ht]; exact hP, hD⟩, hS.F ht⟩) hS.2.2 dX5_livingBehind_42
      · refine lv_aload_n hx hb dX5_livingBehind_19 rfl (lv_at hl 0 rfl) ?_
        refine va_get (D := D) (ci := 5) (v := .ref (aQ 4)) (C := RX5) (T := TX5) (N := 10) hx hb hts iX5_livingBehind_X5 hown hK.1 hP 0 rfl rfl 4 (by decide) (hts (.fieldLink RX5 35 "DarkPlace" "trial" "LDarkPlace$Stand;") (List.mem_of_getElem? (i := 1) rfl)) (fun _ h9 => h9) rfl dX5_livingBehind_20 ?_
        refine lv_bipush (v := 15) hx hb dX5_livingBehind_23 (by decide) ?_
        obtain ⟨⟨r25, i25_0, g25_1, g25_2⟩, k25, hf⟩ := dk_bind hf
        dsimp only at hf
        have hPc := hP.sub (ws' := wSt cy (aQ 4) aU (aQ 1) (U_I, dk_upA (dk_upA U.2 1 U_1) 2 U_2) ++ wNt cy (aQ 1) aG G) [9, 10, 11, 5, 6, 7, 8] rfl
        have hDc := hD.sub (ws' := wSt cy (aQ 4) aU (aQ 1) (U_I, dk_upA (dk_upA U.2 1 U_1) 2 U_2) ++ wNt cy (aQ 1) aG G) [9, 10, 11, 5, 6, 7, 8] (by decide) rfl
        have hFc := va_free (wc := wSt cy (aQ 4) aU (aQ 1) (U_I, dk_upA (dk_upA U.2 1 U_1) 2 U_2) ++ wNt cy (aQ 1) aG G) hD hS hA [9, 10, 11, 5, 6, 7, 8] rfl
        refine va_calli (va_runV (As := [.int 15]) (rest := []) ⟨hx, hb, hml, hown, hts⟩ (kX3_playRound l D cy (aQ 4) aU (aQ 1) aG H.size (U_I, dk_upA (dk_upA U.2 1 U_1) 2 U_2) G 15 r25 i25_0 g25_1 g25_2 k25) (cwV 1 hts gX5_livingBehind_X3_playRound rfl rfl rfl (by decide +kernel) ⟨Nat.le_of_ble_eq_true rfl, Nat.le_of_ble_eq_true rfl⟩) (dk_premV hK hPc hDc (ci := 3) (q0 := 0) rfl rfl) rfl rfl hl.1 rfl (lv_room (Nat.le_of_ble_eq_true rfl)) dX5_livingBehind_25 ⟨Nat.zero_le _, Nat.zero_le _⟩) hS (fun q _ h => hFc q h) hFc (fun xr25 u t H1 locs ht hvm hw hB hz1 hk1 hS => ?_)
        obtain ⟨hP1, hD1⟩ := hB
        rw [ht] at hP1
        rw [hw]
        obtain ⟨hP, hD⟩ := va_join (wr := ([0, 1, 2, 3, 4] : List Nat).filterMap (fun i => (wDp cy hQ aQ sdQ Q ++ wSt cy (aQ 3) aT (aQ 1) T ++ wNt cy (aQ 1) aG G ++ wSt cy (aQ 4) aU (aQ 1) (U_I, dk_upA (dk_upA U.2 1 U_1) 2 U_2))[i]?)) (w1 := wSt cy (aQ 4) aU (aQ 1) (i25_0, dk_upA (dk_upA U.2 1 g25_1) 2 g25_2) ++ wNt cy (aQ 1) aG G) hP hD [9, 10, 11, 5, 6, 7, 8] [0, 1, 2, 3, 4] rfl rfl (by decide) (by decide) hk1 hFc hP1 hD1
        generalize H1 = H at hP hS ⊢
        have hP : va_P D vwCl (wDp cy hQ aQ sdQ Q ++ wSt cy (aQ 3) aT (aQ 1) T ++ wNt cy (aQ 1) aG G ++ wSt cy (aQ 4) aU (aQ 1) (i25_0, dk_upA (dk_upA U.2 1 g25_1) 2 g25_2)) H := hP.sub [0, 1, 2, 3, 4, 8, 9, 10, 11, 5, 6, 7] rfl
        have hD : va_D A (wDp cy hQ aQ sdQ Q ++ wSt cy (aQ 3) aT (aQ 1) T ++ wNt cy (aQ 1) aG G ++ wSt cy (aQ 4) aU (aQ 1) (i25_0, dk_upA (dk_upA U.2 1 g25_1) 2 g25_2)) := hD.sub [0, 1, 2, 3, 4, 8, 9, 10, 11, 5, 6, 7] (by decide) rfl
        refine lv_pop hx hb dX5_livingBehind_28 rfl ?_
        refine lv_iinc (v := x3 + 1) (lv' := [(3, .int (x3 + 1)), (0, .ref hQ), (2, .int x2)]) hx hb dX5_livingBehind_29 hl (k := 2) rfl rfl (by decide) rfl (fun ls hl => ?_)
        refine lv_goto (tgt := 14) hx hb dX5_livingBehind_32 (by decide) ?_
        exact ih14 x2 (x3 + 1) i25_0 g25_1 g25_2 _ _ _ hP hD hS (lv_sub hl [1, 2, 0] rfl) hf
  unfold fX5_livingBehind at hf
  refine lv_aload_n hx hb dX5_livingBehind_0 rfl (lv_at hl 0 rfl) ?_
  refine va_get (D := D) (ci := 5) (v := .ref (aQ 4)) (C := RX5) (T := TX5) (N := 10) hx hb hts iX5_livingBehind_X5 hown hK.1 hP 0 rfl rfl 4 (by decide) (hts (.fieldLink RX5 35 "DarkPlace" "trial" "LDarkPlace$Stand;") (List.mem_of_getElem? (i := 1) rfl)) (fun _ h9 => h9) rfl dX5_livingBehind_1 ?_
  refine lv_aload_n hx hb dX5_livingBehind_4 rfl (lv_at hl 0 rfl) ?_
  refine va_get (D := D) (ci := 5) (v := .ref (aQ 3)) (C := RX5) (T := TX5) (N := 10) hx hb hts iX5_livingBehind_X5 hown hK.1 hP 0 rfl rfl 3 (by decide) (hts (.fieldLink RX5 31 "DarkPlace" "now" "LDarkPlace$Stand;") (List.mem_of_getElem? (i := 2) rfl)) (fun _ h9 => h9) rfl dX5_livingBehind_5 ?_
  refine lv_iload_n hx hb dX5_livingBehind_8 rfl (lv_at hl 1 rfl) ?_
  obtain ⟨⟨i9_0, g9_1, g9_2⟩, k9, hf⟩ := dk_bind hf
  dsimp only at hf
  have hPc := hP.sub (ws' := wSt cy (aQ 4) aU (aQ 1) U ++ wSt cy (aQ 3) aT (aQ 1) T) [9, 10, 11, 2, 3, 4] rfl
  have hDc := hD.sub (ws' := wSt cy (aQ 4) aU (aQ 1) U ++ wSt cy (aQ 3) aT (aQ 1) T) [9, 10, 11, 2, 3, 4] (by decide) rfl
  have hFc := va_free (wc := wSt cy (aQ 4) aU (aQ 1) U ++ wSt cy (aQ 3) aT (aQ 1) T) hD hS hA [9, 10, 11, 2, 3, 4] rfl
  refine va_callv (va_runV (As := [.ref (aQ 3), .int v1]) (rest := []) ⟨hx, hb, hml, hown, hts⟩ (kX3_suppose l D cy (aQ 4) aU (aQ 1) (aQ 3) aT (aQ 1) s.heap.size U T v1 i9_0 g9_1 g9_2 k9) (cwV 2 hts gX5_livingBehind_X3_suppose rfl rfl rfl (by decide +kernel) ⟨Nat.le_of_ble_eq_true rfl, Nat.le_of_ble_eq_true rfl⟩) (dk_premV hK hPc hDc (ci := 3) (q0 := 0) rfl rfl) rfl rfl hl.1 rfl (lv_room (Nat.le_of_ble_eq_true rfl)) dX5_livingBehind_9 ⟨Nat.zero_le _, Nat.zero_le _⟩) hS (fun q _ h => hFc q h) hFc (fun u t H1 locs ht hvm hw hB hz1 hk1 hS => ?_)
  obtain ⟨hP1, hD1⟩ := hB
  rw [ht] at hP1
  obtain ⟨hP, hD⟩ := va_join (wr := ([0, 1, 5, 6, 7, 8] : List Nat).filterMap (fun i => (wDp cy hQ aQ sdQ Q ++ wSt cy (aQ 3) aT (aQ 1) T ++ wNt cy (aQ 1) aG G ++ wSt cy (aQ 4) aU (aQ 1) U)[i]?)) (w1 := wSt cy (aQ 4) aU (aQ 1) (i9_0, dk_upA (dk_upA U.2 1 g9_1) 2 g9_2) ++ wSt cy (aQ 3) aT (aQ 1) T) hP hD [9, 10, 11, 2, 3, 4] [0, 1, 5, 6, 7, 8] rfl rfl (by decide) (by decide) hk1 hFc hP1 hD1
  generalize H1 = H at hP hS ⊢
  have hP : va_P D vwCl (wDp cy hQ aQ sdQ Q ++ wSt cy (aQ 3) aT (aQ 1) T ++ wNt cy (aQ 1) aG G ++ wSt cy (aQ 4) aU (aQ 1) (i9_0, dk_upA (dk_upA U.2 1 g9_1) 2 g9_2)) H := hP.sub [0, 1, 9, 10, 11, 2, 3, 4, 5, 6, 7, 8] rfl
  have hD : va_D A (wDp cy hQ aQ sdQ Q ++ wSt cy (aQ 3) aT (aQ 1) T ++ wNt cy (aQ 1) aG G ++ wSt cy (aQ 4) aU (aQ 1) (i9_0, dk_upA (dk_upA U.2 1 g9_1) 2 g9_2)) := hD.sub [0, 1, 9, 10, 11, 2, 3, 4, 5, 6, 7, 8] (by decide) rfl
  refine lv_iconst (v := 0) hx hb dX5_livingBehind_12 (by decide) ?_
  refine lv_istore_n (lv' := [(3, .int 0), (0, .ref hQ), (1, .int v1), (2, .int v2)]) hx hb dX5_livingBehind_13 rfl hl (by decide) rfl (fun ls hl => ?_)
  exact L14 1000 v2 0 i9_0 g9_1 g9_2 _ _ _ hP hD hS (lv_sub hl [1, 3, 0] rfl) hf
theorem iX5_luck_X5 : ∀ w ∈ wsX50, w ∈ wsX5_luck := fun _ h => List.mem_cons_of_mem _ (List.mem_append_left _ (List.mem_append_left _ (List.mem_append_right _ h)))
set_option maxHeartbeats 4000000 in
set_option maxRecDepth 100000 in
theorem kX5_luck (l : Launch) (D : va_G) (cy : Nat → ClassId) (hQ : Nat) (aQ : Nat → Nat) (sdQ : Int64) (aT : Nat → Nat) (aG : Nat → Nat) (aU : Nat → Nat) (sz : Nat) (Q : dk_O) (T : dk_O) (G : dk_O) (U : dk_O) (v1 : Int32) (v2 : Int32) (v3 : Int32) (r : Int32) (oU_I : (Nat → Int32)) (oU_1 : (Nat → Int32)) (oU_2 : (Nat → Int32)) (hf : fX5_luck Q T G U v1 v2 v3 = some (r, oU_I, oU_1, oU_2)) : dk_MuI l yX5_luck wsX5_luck ({ frames := 5, cells := 0, slots := 0, locals := 119 }) D cy [.ref hQ, .int v1, .int v2, .int v3] (wDp cy hQ aQ sdQ Q ++ wSt cy (aQ 3) aT (aQ 1) T ++ wNt cy (aQ 1) aG G ++ wSt cy (aQ 4) aU (aQ 1) U) (wDp cy hQ aQ sdQ Q ++ wSt cy (aQ 3) aT (aQ 1) T ++ wNt cy (aQ 1) aG G ++ wSt cy (aQ 4) aU (aQ 1) (oU_I, dk_upA (dk_upA U.2 1 oU_1) 2 oU_2)) sz r := by
  refine Met.ofW (cc := cX5_luck) (maxL := 7) (ret := (some .int)) (by decide) rfl ?_
  intro p e s m args below meth c s₁ B hml hv
  obtain ⟨rfl, hsz, hP, hK, hD0⟩ := hv
  have hx := B.exec
  have hb := B.bytes
  have hr := B.returns
  have hts := atoms_spec (ws := wsX5_luck) B.pre
  have hown : s.vm.findClass RX5 = some m.cls := findClass_of_methodNamed B.named
  have hlocks := B.notSynchronized
  subst hsz
  have hD := hD0.self (sz := s.heap.size)
  generalize hAe : va_A (wDp cy hQ aQ sdQ Q ++ wSt cy (aQ 3) aT (aQ 1) T ++ wNt cy (aQ 1) aG G ++ wSt cy (aQ 4) aU (aQ 1) U) s.heap.size = A at hD ⊢
  have hA : ∀ q : Nat, s.heap.size ≤ q → A q := fun q h => by rw [← hAe]; exact Or.inr h
  have hS : va_S A s.heap s.heap [] := va_S.rf
  have hl := lv_entry ([.ref hQ, .int v1, .int v2, .int v3]) (n := 7) (Nat.le_of_ble_eq_true rfl)
  rw [lg_entry_eq]
  generalize (lg_sl ([.ref hQ, .int v1, .int v2, .int v3]) ++ List.replicate (7 - (lg_sl ([.ref hQ, .int v1, .int v2, .int v3])).length) Slot.unset).toArray = ls at hl ⊢
  have hl : lv_has ls 7 [(0, .ref hQ), (1, .int v1), (2, .int v2), (3, .int v3)] := hl
  have L34 : ∀ (fu34 : Nat) (x1 : Int32) (x2 : Int32) (x3 : Int32) (x4 : Int32) (x5 : Int32) (x6 : Int32) (U_I : (Nat → Int32)) (U_1 : (Nat → Int32)) (U_2 : (Nat → Int32)) (H : Heap) (locs : List Loc) (ls : Array Slot), va_P D vwCl (wDp cy hQ aQ sdQ Q ++ wSt cy (aQ 3) aT (aQ 1) T ++ wNt cy (aQ 1) aG G ++ wSt cy (aQ 4) aU (aQ 1) (U_I, dk_upA (dk_upA U.2 1 U_1) 2 U_2)) H → va_D A (wDp cy hQ aQ sdQ Q ++ wSt cy (aQ 3) aT (aQ 1) T ++ wNt cy (aQ 1) aG G ++ wSt cy (aQ 4) aU (aQ 1) (U_I, dk_upA (dk_upA U.2 1 U_1) 2 U_2)) → va_S A s.heap H locs → lv_has ls 7 [(0, .ref hQ), (1, .int x1), (2, .int x2), (3, .int x3), (4, .int x4), (5, .int x5), (6, .int x6)] → fX5_luck_L34 Q T G U fu34 x1 x2 x3 x4 x5 x6 U_I U_1 U_2 = some (r, oU_I, oU_1, oU_2) → W p l e (headSpec wsX5_luck ({ frames := 5, cells := 0, slots := 0, locals := 119 })).room s m ([.ref hQ, .int v1, .int v2, .int v3]).toArray below meth c H locs 0 0 (MQ below (va_Qi (fun (x : Int32) (_ : Unit) => x = r) (dk_B D (wDp cy hQ aQ sdQ Q ++ wSt cy (aQ 3) aT (aQ 1) T ++ wNt cy (aQ 1) aG G ++ wSt cy (aQ 4) aU (aQ 1) (oU_I, dk_upA (dk_upA U.2 1 oU_1) 2 oU_2)) A) A) ([.ref hQ, .int v1, .int v2, .int v3]).toArray s 0 0 A) (F0 m 34 ls []) := by
    intro fu34
    induction fu34 with
    | zero =>
      intro x1 x2 x3 x4 x5 x6 U_I U_1 U_2 H locs ls hP hD hS hl hf
      rw [fX5_luck_L34] at hf
      cases hf
    | succ fu34 ih34 =>
      intro x1 x2 x3 x4 x5 x6 U_I U_1 U_2 H locs ls hP hD hS hl hf
      rw [fX5_luck_L34] at hf
      refine lv_iload hx hb dX5_luck_34 (lv_at hl 6 rfl) ?_
      refine lv_bipush (v := 8) hx hb dX5_luck_36 (by decide) ?_
      refine dk_cge (tgt := 71) hx hb dX5_luck_38 (by decide) hf (fun hf => ?_) (fun hf => ?_)
      · refine lv_iload hx hb dX5_luck_71 (lv_at hl 5 rfl) ?_
        refine lv_iload hx hb dX5_luck_73 (lv_at hl 4 rfl) ?_
        obtain ⟨r75, k75, hf⟩ := dk_bind hf
        refine dk_ri (va_runS (As := [.int x4]) (rest := [.int x5]) ⟨hx, hb, hml, hown, hts⟩ (kJ6_bitCount_0f7a4 l D cy x4 r75 k75) (va_cwS 1 hts gX5_luck_J6_bitCount_0f7a4 rfl rfl rfl (by decide +kernel) ⟨Nat.le_of_ble_eq_true rfl, Nat.le_of_ble_eq_true rfl⟩) (dk_preS hK (hP.sub (ws' := []) [] rfl)) rfl rfl hl.1 rfl (lv_room (Nat.le_of_ble_eq_true rfl)) dX5_luck_75 ⟨Nat.zero_le _, Nat.zero_le _⟩) ?_
        refine lv_iload_n hx hb dX5_luck_78 rfl (lv_at hl 3 rfl) ?_
        obtain ⟨r79, k79, hf⟩ := dk_bind hf
        refine dk_ri (va_runS (As := [.int x5, .int r75, .int x3]) (rest := []) ⟨hx, hb, hml, hown, hts⟩ (kX5_fraction l D cy x5 r75 x3 r79 k79) (va_cwS 3 hts gX5_luck_X5_fraction rfl rfl rfl (by decide +kernel) ⟨Nat.le_of_ble_eq_true rfl, Nat.le_of_ble_eq_true rfl⟩) (dk_preS hK (hP.sub (ws' := []) [] rfl)) rfl rfl hl.1 rfl (lv_room (Nat.le_of_ble_eq_true rfl)) dX5_luck_79 ⟨Nat.zero_le _, Nat.zero_le _⟩) ?_
        have e := Option.some.inj hf
        simp only [Prod.mk.injEq] at e
        obtain ⟨e0, e1, e2, e3⟩ := e
        subst e1
        subst e2
        subst e3
        exact W.iret (v := r79) hx hb hr (fun t ht hW => ⟨⟨r79, (), rfl, e0, by rw [ht]; exact hP, hD⟩, hS.F ht⟩) hS.2.2 dX5_luck_82
      · refine lv_iload hx hb dX5_luck_41 (lv_at hl 4 rfl) ?_
        refine lv_iload hx hb dX5_luck_43 (lv_at hl 6 rfl) ?_
        obtain ⟨r45, k45, hf⟩ := dk_bind hf
        refine dk_ri (va_runS (As := [.int x4, .int x6]) (rest := []) ⟨hx, hb, hml, hown, hts⟩ (kX5_holds l D cy x4 x6 r45 k45) (va_cwS 2 hts gX5_luck_X5_holds rfl rfl rfl (by decide +kernel) ⟨Nat.le_of_ble_eq_true rfl, Nat.le_of_ble_eq_true rfl⟩) (dk_preS hK (hP.sub (ws' := []) [] rfl)) rfl rfl hl.1 rfl (lv_room (Nat.le_of_ble_eq_true rfl)) dX5_luck_45 ⟨Nat.zero_le _, Nat.zero_le _⟩) ?_
        refine dk_ieq (tgt := 65) hx hb dX5_luck_48 (by decide) hf (fun hf => ?_) (fun hf => ?_)
        · refine lv_iinc (v := x6 + 1) (lv' := [(6, .int (x6 + 1)), (0, .ref hQ), (1, .int x1), (2, .int x2), (3, .int x3), (4, .int x4), (5, .int x5)]) hx hb dX5_luck_65 hl (k := 6) rfl rfl (by decide) rfl (fun ls hl => ?_)
          refine lv_goto (tgt := 34) hx hb dX5_luck_68 (by decide) ?_
          exact ih34 x1 x2 x3 x4 x5 (x6 + 1) U_I U_1 U_2 _ _ _ hP hD hS (lv_sub hl [1, 2, 3, 4, 5, 6, 0] rfl) hf
        · refine lv_aload_n hx hb dX5_luck_51 rfl (lv_at hl 0 rfl) ?_
          refine lv_iload hx hb dX5_luck_52 (lv_at hl 6 rfl) ?_
          refine lv_iload_n hx hb dX5_luck_54 rfl (lv_at hl 1 rfl) ?_
          obtain ⟨⟨r55, i55_0, g55_1, g55_2⟩, k55, hf⟩ := dk_bind hf
          dsimp only at hf
          have hPc := hP.sub (ws' := wDp cy hQ aQ sdQ Q ++ wSt cy (aQ 3) aT (aQ 1) T ++ wNt cy (aQ 1) aG G ++ wSt cy (aQ 4) aU (aQ 1) (U_I, dk_upA (dk_upA U.2 1 U_1) 2 U_2)) [0, 1, 2, 3, 4, 5, 6, 7, 8, 9, 10, 11] rfl
          have hDc := hD.sub (ws' := wDp cy hQ aQ sdQ Q ++ wSt cy (aQ 3) aT (aQ 1) T ++ wNt cy (aQ 1) aG G ++ wSt cy (aQ 4) aU (aQ 1) (U_I, dk_upA (dk_upA U.2 1 U_1) 2 U_2)) [0, 1, 2, 3, 4, 5, 6, 7, 8, 9, 10, 11] (by decide) rfl
          have hFc := va_free (wc := wDp cy hQ aQ sdQ Q ++ wSt cy (aQ 3) aT (aQ 1) T ++ wNt cy (aQ 1) aG G ++ wSt cy (aQ 4) aU (aQ 1) (U_I, dk_upA (dk_upA U.2 1 U_1) 2 U_2)) hD hS hA [0, 1, 2, 3, 4, 5, 6, 7, 8, 9, 10, 11] rfl
          refine va_calli (va_runV (As := [.int x6, .int x1]) (rest := []) ⟨hx, hb, hml, hown, hts⟩ (kX5_livingBehind l D cy hQ aQ sdQ aT aG aU H.size Q T G (U_I, dk_upA (dk_upA U.2 1 U_1) 2 U_2) x6 x1 r55 i55_0 g55_1 g55_2 k55) (cwV 2 hts gX5_luck_X5_livingBehind rfl rfl rfl (by decide +kernel) ⟨Nat.le_of_ble_eq_true rfl, Nat.le_of_ble_eq_true rfl⟩) (dk_premV hK hPc hDc (ci := 5) (q0 := 0) rfl rfl) rfl rfl hl.1 rfl (lv_room (Nat.le_of_ble_eq_true rfl)) dX5_luck_55 ⟨Nat.zero_le _, Nat.zero_le _⟩) hS (fun q _ h => hFc q h) hFc (fun xr55 u t H1 locs ht hvm hw hB hz1 hk1 hS => ?_)
          obtain ⟨hP1, hD1⟩ := hB
          rw [ht] at hP1
          rw [hw]
          obtain ⟨hP, hD⟩ := va_join (wr := ([] : List Nat).filterMap (fun i => (wDp cy hQ aQ sdQ Q ++ wSt cy (aQ 3) aT (aQ 1) T ++ wNt cy (aQ 1) aG G ++ wSt cy (aQ 4) aU (aQ 1) (U_I, dk_upA (dk_upA U.2 1 U_1) 2 U_2))[i]?)) (w1 := wDp cy hQ aQ sdQ Q ++ wSt cy (aQ 3) aT (aQ 1) T ++ wNt cy (aQ 1) aG G ++ wSt cy (aQ 4) aU (aQ 1) (i55_0, dk_upA (dk_upA U.2 1 g55_1) 2 g55_2)) hP hD [0, 1, 2, 3, 4, 5, 6, 7, 8, 9, 10, 11] [] rfl rfl (by decide) (by decide) hk1 hFc hP1 hD1
          generalize H1 = H at hP hS ⊢
          have hP : va_P D vwCl (wDp cy hQ aQ sdQ Q ++ wSt cy (aQ 3) aT (aQ 1) T ++ wNt cy (aQ 1) aG G ++ wSt cy (aQ 4) aU (aQ 1) (i55_0, dk_upA (dk_upA U.2 1 g55_1) 2 g55_2)) H := hP.sub [0, 1, 2, 3, 4, 5, 6, 7, 8, 9, 10, 11] rfl
          have hD : va_D A (wDp cy hQ aQ sdQ Q ++ wSt cy (aQ 3) aT (aQ 1) T ++ wNt cy (aQ 1) aG G ++ wSt cy (aQ 4) aU (aQ 1) (i55_0, dk_upA (dk_upA U.2 1 g55_1) 2 g55_2)) := hD.sub [0, 1, 2, 3, 4, 5, 6, 7, 8, 9, 10, 11] (by decide) rfl
          refine lv_iload_n hx hb dX5_luck_58 rfl (lv_at hl 2 rfl) ?_
          refine dk_clt (tgt := 65) hx hb dX5_luck_59 (by decide) hf (fun hf => ?_) (fun hf => ?_)
          · refine lv_iinc (v := x6 + 1) (lv' := [(6, .int (x6 + 1)), (0, .ref hQ), (1, .int x1), (2, .int x2), (3, .int x3), (4, .int x4), (5, .int x5)]) hx hb dX5_luck_65 hl (k := 6) rfl rfl (by decide) rfl (fun ls hl => ?_)
            refine lv_goto (tgt := 34) hx hb dX5_luck_68 (by decide) ?_
            exact ih34 x1 x2 x3 x4 x5 (x6 + 1) i55_0 g55_1 g55_2 _ _ _ hP hD hS (lv_sub hl [1, 2, 3, 4, 5, 6, 0] rfl) hf
          · refine lv_iinc (v := x5 + 1) (lv' := [(5, .int (x5 + 1)), (0, .ref hQ), (1, .int x1), (2, .int x2), (3, .int x3), (4, .int x4), (6, .int x6)]) hx hb dX5_luck_62 hl (k := 5) rfl rfl (by decide) rfl (fun ls hl => ?_)
            refine lv_iinc (v := x6 + 1) (lv' := [(6, .int (x6 + 1)), (5, .int (x5 + 1)), (0, .ref hQ), (1, .int x1), (2, .int x2), (3, .int x3), (4, .int x4)]) hx hb dX5_luck_65 hl (k := 6) rfl rfl (by decide) rfl (fun ls hl => ?_)
            refine lv_goto (tgt := 34) hx hb dX5_luck_68 (by decide) ?_
            exact ih34 x1 x2 x3 x4 (x5 + 1) (x6 + 1) i55_0 g55_1 g55_2 _ _ _ hP hD hS (lv_sub hl [2, 3, 4, 5, 6, 1, 0] rfl) hf
  unfold fX5_luck at hf
  refine lv_iload_n hx hb dX5_luck_0 rfl (lv_at hl 1 rfl) ?_
  refine lv_iload_n hx hb dX5_luck_1 rfl (lv_at hl 2 rfl) ?_
  obtain ⟨r2, k2, hf⟩ := dk_bind hf
  refine dk_ri (va_runS (As := [.int v1, .int v2]) (rest := []) ⟨hx, hb, hml, hown, hts⟩ (kX5_isOutsideOfSeen l D cy v1 v2 r2 k2) (va_cwS 2 hts gX5_luck_X5_isOutsideOfSeen rfl rfl rfl (by decide +kernel) ⟨Nat.le_of_ble_eq_true rfl, Nat.le_of_ble_eq_true rfl⟩) (dk_preS hK (hP.sub (ws' := []) [] rfl)) rfl rfl hl.1 rfl (lv_room (Nat.le_of_ble_eq_true rfl)) dX5_luck_2 ⟨Nat.zero_le _, Nat.zero_le _⟩) ?_
  refine dk_ieq (tgt := 11) hx hb dX5_luck_5 (by decide) hf (fun hf => ?_) (fun hf => ?_)
  · refine lv_aload_n hx hb dX5_luck_11 rfl (lv_at hl 0 rfl) ?_
    refine va_get (D := D) (ci := 5) (v := .ref (aQ 3)) (C := RX5) (T := TX5) (N := 10) hx hb hts iX5_luck_X5 hown hK.1 hP 0 rfl rfl 3 (by decide) (hts (.fieldLink RX5 31 "DarkPlace" "now" "LDarkPlace$Stand;") (List.mem_of_getElem? (i := 1) rfl)) (fun _ h9 => h9) rfl dX5_luck_12 ?_
    obtain ⟨r15, k15, hf⟩ := dk_bind hf
    refine dk_ri (va_runV (As := []) (rest := []) ⟨hx, hb, hml, hown, hts⟩ (kX3_fated l D cy (aQ 3) aT (aQ 1) aG T G r15 k15) (cwV 0 hts gX5_luck_X3_fated rfl rfl rfl (by decide +kernel) ⟨Nat.le_of_ble_eq_true rfl, Nat.le_of_ble_eq_true rfl⟩) (dk_preV hK (hP.sub (ws' := wSt cy (aQ 3) aT (aQ 1) T ++ wNt cy (aQ 1) aG G) [2, 3, 4, 5, 6, 7, 8] rfl) (ci := 3) (q0 := 0) rfl rfl) rfl rfl hl.1 rfl (lv_room (Nat.le_of_ble_eq_true rfl)) dX5_luck_15 ⟨Nat.zero_le _, Nat.zero_le _⟩) ?_
    refine lv_istore (lv' := [(4, .int r15), (0, .ref hQ), (1, .int v1), (2, .int v2), (3, .int v3)]) hx hb dX5_luck_18 hl (by decide) rfl (fun ls hl => ?_)
    refine lv_iload hx hb dX5_luck_20 (lv_at hl 0 rfl) ?_
    refine dk_ine (tgt := 28) hx hb dX5_luck_22 (by decide) hf (fun hf => ?_) (fun hf => ?_)
    · refine lv_iconst (v := 0) hx hb dX5_luck_28 (by decide) ?_
      refine lv_istore (lv' := [(5, .int 0), (4, .int r15), (0, .ref hQ), (1, .int v1), (2, .int v2), (3, .int v3)]) hx hb dX5_luck_29 hl (by decide) rfl (fun ls hl => ?_)
      refine lv_iconst (v := 0) hx hb dX5_luck_31 (by decide) ?_
      refine lv_istore (lv' := [(6, .int 0), (5, .int 0), (4, .int r15), (0, .ref hQ), (1, .int v1), (2, .int v2), (3, .int v3)]) hx hb dX5_luck_32 hl (by decide) rfl (fun ls hl => ?_)
      exact L34 1000 v1 v2 v3 r15 0 0 U.1 (U.2 1) (U.2 2) _ _ _ hP hD hS (lv_sub hl [3, 4, 5, 6, 2, 1, 0] rfl) hf
    · refine lv_bipush (v := (-3)) hx hb dX5_luck_25 (by decide) ?_
      have e := Option.some.inj hf
      simp only [Prod.mk.injEq] at e
      obtain ⟨e0, e1, e2, e3⟩ := e
      subst e1
      subst e2
      subst e3
      exact W.iret (v := (-3)) hx hb hr (fun t ht hW => ⟨⟨(-3), (), rfl, e0, by rw [ht]; exact hP, hD⟩, hS.F ht⟩) hS.2.2 dX5_luck_27
  · refine lv_bipush (v := (-2)) hx hb dX5_luck_8 (by decide) ?_
    have e := Option.some.inj hf
    simp only [Prod.mk.injEq] at e
    obtain ⟨e0, e1, e2, e3⟩ := e
    subst e1
    subst e2
    subst e3
    exact W.iret (v := (-2)) hx hb hr (fun t ht hW => ⟨⟨(-2), (), rfl, e0, by rw [ht]; exact hP, hD⟩, hS.F ht⟩) hS.2.2 dX5_luck_10
theorem iX5_seed_X5 : ∀ w ∈ wsX50, w ∈ wsX5_seed := fun _ h => List.mem_cons_of_mem _ (List.mem_append_right _ h)
set_option maxHeartbeats 4000000 in
set_option maxRecDepth 100000 in
theorem kX5_seed (l : Launch) (D : va_G) (cy : Nat → ClassId) (hQ : Nat) (aQ : Nat → Nat) (sdQ : Int64) (sz : Nat) (Q : dk_O) (v1 : Int64) (r : Int64) (oQ_sd : Int64) (hf : fX5_seed sdQ Q v1 = some (r, oQ_sd)) : dk_MuL l yX5_seed wsX5_seed ({ frames := 0, cells := 0, slots := 0, locals := 0 }) D cy [.ref hQ, .long v1] (wDp cy hQ aQ sdQ Q) (wDp cy hQ aQ oQ_sd Q) sz r := by
  refine Met.ofW (cc := cX5_seed) (maxL := 5) (ret := (some .long)) (by decide) rfl ?_
  intro p e s m args below meth c s₁ B hml hv
  obtain ⟨rfl, hsz, hP, hK, hD0⟩ := hv
  have hx := B.exec
  have hb := B.bytes
  have hr := B.returns
  have hts := atoms_spec (ws := wsX5_seed) B.pre
  have hown : s.vm.findClass RX5 = some m.cls := findClass_of_methodNamed B.named
  have hlocks := B.notSynchronized
  subst hsz
  have hD := hD0.self (sz := s.heap.size)
  generalize hAe : va_A (wDp cy hQ aQ sdQ Q) s.heap.size = A at hD ⊢
  have hA : ∀ q : Nat, s.heap.size ≤ q → A q := fun q h => by rw [← hAe]; exact Or.inr h
  have hS : va_S A s.heap s.heap [] := va_S.rf
  have hl := lv_entry ([.ref hQ, .long v1]) (n := 5) (Nat.le_of_ble_eq_true rfl)
  rw [lg_entry_eq]
  generalize (lg_sl ([.ref hQ, .long v1]) ++ List.replicate (5 - (lg_sl ([.ref hQ, .long v1])).length) Slot.unset).toArray = ls at hl ⊢
  have hl : lv_has ls 5 [(0, .ref hQ), (1, .long v1)] := hl
  unfold fX5_seed at hf
  refine lv_aload_n hx hb dX5_seed_0 rfl (lv_at hl 0 rfl) ?_
  refine va_get (D := D) (ci := 5) (v := .long sdQ) (C := RX5) (T := TX5) (N := 10) hx hb hts iX5_seed_X5 hown hK.1 hP 0 rfl rfl 9 (by decide) (hts (.fieldLink RX5 60 "DarkPlace" "chance" "J") (List.mem_of_getElem? (i := 1) rfl)) (fun _ h9 => h9) rfl dX5_seed_1 ?_
  refine lv_lstore_n (lv' := [(3, .long sdQ), (0, .ref hQ), (1, .long v1)]) hx hb dX5_seed_4 rfl hl (by decide) rfl (fun ls hl => ?_)
  refine lv_aload_n hx hb dX5_seed_5 rfl (lv_at hl 1 rfl) ?_
  refine lv_lload_n hx hb dX5_seed_6 rfl (lv_at hl 2 rfl) ?_
  refine va_put (D := D) (ci := 5) (v := .long v1) (ty := .long) (C := RX5) (T := TX5) (N := 10) hx hb hts iX5_seed_X5 tyX5 tyX5_ok nmX5 hown hK.1 hP hD hS 0 rfl rfl 9 (by decide) (hts (.fieldLink RX5 60 "DarkPlace" "chance" "J") (List.mem_of_getElem? (i := 1) rfl)) (fun _ h9 => h9) rfl (by decide +kernel) rfl rfl (Nat.le_of_ble_eq_true rfl) dX5_seed_7 (fun H locs hP hD hS => ?_)
  have hP : va_P D vwCl (wDp cy hQ aQ v1 Q) H := hP
  have hD : va_D A (wDp cy hQ aQ v1 Q) := hD
  refine lv_lload_n hx hb dX5_seed_10 rfl (lv_at hl 0 rfl) ?_
  have e := Option.some.inj hf
  simp only [Prod.mk.injEq] at e
  obtain ⟨e0, e1⟩ := e
  subst e1
  exact W.lret (v := sdQ) hx hb hr (fun t ht hW => ⟨⟨sdQ, (), rfl, e0, by rw [ht]; exact hP, hD⟩, hS.F ht⟩) hS.2.2 dX5_seed_11
theorem iX5_drawn_X5 : ∀ w ∈ wsX50, w ∈ wsX5_drawn := fun _ h => List.mem_cons_of_mem _ (List.mem_append_left _ (List.mem_append_left _ (List.mem_append_right _ h)))
set_option maxHeartbeats 4000000 in
set_option maxRecDepth 100000 in
theorem kX5_drawn (l : Launch) (D : va_G) (cy : Nat → ClassId) (hQ : Nat) (aQ : Nat → Nat) (sdQ : Int64) (aT : Nat → Nat) (aG : Nat → Nat) (aU : Nat → Nat) (sz : Nat) (Q : dk_O) (T : dk_O) (G : dk_O) (U : dk_O) (v1 : Int32) (r : Int32) (oQ_sd : Int64) (oU_I : (Nat → Int32)) (oU_1 : (Nat → Int32)) (oU_2 : (Nat → Int32)) (hf : fX5_drawn sdQ Q T G U v1 = some (r, oQ_sd, oU_I, oU_1, oU_2)) : dk_MuI l yX5_drawn wsX5_drawn ({ frames := 5, cells := 0, slots := 0, locals := 108 }) D cy [.ref hQ, .int v1] (wDp cy hQ aQ sdQ Q ++ wSt cy (aQ 3) aT (aQ 1) T ++ wNt cy (aQ 1) aG G ++ wSt cy (aQ 4) aU (aQ 1) U) (wDp cy hQ aQ oQ_sd Q ++ wSt cy (aQ 3) aT (aQ 1) T ++ wNt cy (aQ 1) aG G ++ wSt cy (aQ 4) aU (aQ 1) (oU_I, dk_upA (dk_upA U.2 1 oU_1) 2 oU_2)) sz r := by
  refine Met.ofW (cc := cX5_drawn) (maxL := 5) (ret := (some .int)) (by decide) rfl ?_
  intro p e s m args below meth c s₁ B hml hv
  obtain ⟨rfl, hsz, hP, hK, hD0⟩ := hv
  have hx := B.exec
  have hb := B.bytes
  have hr := B.returns
  have hts := atoms_spec (ws := wsX5_drawn) B.pre
  have hown : s.vm.findClass RX5 = some m.cls := findClass_of_methodNamed B.named
  have hlocks := B.notSynchronized
  subst hsz
  have hD := hD0.self (sz := s.heap.size)
  generalize hAe : va_A (wDp cy hQ aQ sdQ Q ++ wSt cy (aQ 3) aT (aQ 1) T ++ wNt cy (aQ 1) aG G ++ wSt cy (aQ 4) aU (aQ 1) U) s.heap.size = A at hD ⊢
  have hA : ∀ q : Nat, s.heap.size ≤ q → A q := fun q h => by rw [← hAe]; exact Or.inr h
  have hS : va_S A s.heap s.heap [] := va_S.rf
  have hl := lv_entry ([.ref hQ, .int v1]) (n := 5) (Nat.le_of_ble_eq_true rfl)
  rw [lg_entry_eq]
  generalize (lg_sl ([.ref hQ, .int v1]) ++ List.replicate (5 - (lg_sl ([.ref hQ, .int v1])).length) Slot.unset).toArray = ls at hl ⊢
  have hl : lv_has ls 5 [(0, .ref hQ), (1, .int v1)] := hl
  have L29 : ∀ (fu29 : Nat) (x1 : Int32) (x2 : Int32) (x3 : Int32) (Q_sd : Int64) (U_I : (Nat → Int32)) (U_1 : (Nat → Int32)) (U_2 : (Nat → Int32)) (H : Heap) (locs : List Loc) (ls : Array Slot), va_P D vwCl (wDp cy hQ aQ Q_sd Q ++ wSt cy (aQ 3) aT (aQ 1) T ++ wNt cy (aQ 1) aG G ++ wSt cy (aQ 4) aU (aQ 1) (U_I, dk_upA (dk_upA U.2 1 U_1) 2 U_2)) H → va_D A (wDp cy hQ aQ Q_sd Q ++ wSt cy (aQ 3) aT (aQ 1) T ++ wNt cy (aQ 1) aG G ++ wSt cy (aQ 4) aU (aQ 1) (U_I, dk_upA (dk_upA U.2 1 U_1) 2 U_2)) → va_S A s.heap H locs → lv_has ls 5 [(0, .ref hQ), (1, .int x1), (2, .int x2), (3, .int x3)] → fX5_drawn_L29 sdQ Q T G U fu29 x1 x2 x3 Q_sd U_I U_1 U_2 = some (r, oQ_sd, oU_I, oU_1, oU_2) → W p l e (headSpec wsX5_drawn ({ frames := 5, cells := 0, slots := 0, locals := 108 })).room s m ([.ref hQ, .int v1]).toArray below meth c H locs 0 0 (MQ below (va_Qi (fun (x : Int32) (_ : Unit) => x = r) (dk_B D (wDp cy hQ aQ oQ_sd Q ++ wSt cy (aQ 3) aT (aQ 1) T ++ wNt cy (aQ 1) aG G ++ wSt cy (aQ 4) aU (aQ 1) (oU_I, dk_upA (dk_upA U.2 1 oU_1) 2 oU_2)) A) A) ([.ref hQ, .int v1]).toArray s 0 0 A) (F0 m 29 ls []) := by
    intro fu29
    induction fu29 with
    | zero =>
      intro x1 x2 x3 Q_sd U_I U_1 U_2 H locs ls hP hD hS hl hf
      rw [fX5_drawn_L29] at hf
      cases hf
    | succ fu29 ih29 =>
      intro x1 x2 x3 Q_sd U_I U_1 U_2 H locs ls hP hD hS hl hf
      rw [fX5_drawn_L29] at hf
      refine lv_iload_n hx hb dX5_drawn_29 rfl (lv_at hl 3 rfl) ?_
      refine lv_iload_n hx hb dX5_drawn_30 rfl (lv_at hl 1 rfl) ?_
      refine dk_cge (tgt := 95) hx hb dX5_drawn_31 (by decide) hf (fun hf => ?_) (fun hf => ?_)
      · refine lv_iload_n hx hb dX5_drawn_95 rfl (lv_at hl 2 rfl) ?_
        have e := Option.some.inj hf
        simp only [Prod.mk.injEq] at e
        obtain ⟨e0, e1, e2, e3, e4⟩ := e
        subst e1
        subst e2
        subst e3
        subst e4
        exact W.iret (v := x2) hx hb hr (fun t ht hW => ⟨⟨x2, (), rfl, e0, by rw [ht]; exact hP, hD⟩, hS.F ht⟩) hS.2.2 dX5_drawn_96
      · refine lv_aload_n hx hb dX5_drawn_34 rfl (lv_at hl 0 rfl) ?_
        refine lv_aload_n hx hb dX5_drawn_35 rfl (lv_at hl 0 rfl) ?_
        refine va_get (D := D) (ci := 5) (v := .long Q_sd) (C := RX5) (T := TX5) (N := 10) hx hb hts iX5_drawn_X5 hown hK.1 hP 0 rfl rfl 9 (by decide) (hts (.fieldLink RX5 60 "DarkPlace" "chance" "J") (List.mem_of_getElem? (i := 3) rfl)) (fun _ h9 => h9) rfl dX5_drawn_36 ?_
        refine lv_ldc2 hx hb hown (hts (.constantLong RX5 238 (6364136223846793005)) (List.mem_of_getElem? (i := 4) rfl)) dX5_drawn_39 ?_
        refine lv_lmul hx hb dX5_drawn_42 ?_
        refine lv_ldc2 hx hb hown (hts (.constantLong RX5 240 (1442695040888963407)) (List.mem_of_getElem? (i := 5) rfl)) dX5_drawn_43 ?_
        refine lv_ladd hx hb dX5_drawn_46 ?_
        refine va_put (D := D) (ci := 5) (v := .long ((Q_sd * 6364136223846793005) + 1442695040888963407)) (ty := .long) (C := RX5) (T := TX5) (N := 10) hx hb hts iX5_drawn_X5 tyX5 tyX5_ok nmX5 hown hK.1 hP hD hS 0 rfl rfl 9 (by decide) (hts (.fieldLink RX5 60 "DarkPlace" "chance" "J") (List.mem_of_getElem? (i := 3) rfl)) (fun _ h9 => h9) rfl (by decide +kernel) rfl rfl (Nat.le_of_ble_eq_true rfl) dX5_drawn_47 (fun H locs hP hD hS => ?_)
        have hP : va_P D vwCl (wDp cy hQ aQ ((Q_sd * 6364136223846793005) + 1442695040888963407) Q ++ wSt cy (aQ 3) aT (aQ 1) T ++ wNt cy (aQ 1) aG G ++ wSt cy (aQ 4) aU (aQ 1) (U_I, dk_upA (dk_upA U.2 1 U_1) 2 U_2)) H := hP
        have hD : va_D A (wDp cy hQ aQ ((Q_sd * 6364136223846793005) + 1442695040888963407) Q ++ wSt cy (aQ 3) aT (aQ 1) T ++ wNt cy (aQ 1) aG G ++ wSt cy (aQ 4) aU (aQ 1) (U_I, dk_upA (dk_upA U.2 1 U_1) 2 U_2)) := hD
        refine lv_aload_n hx hb dX5_drawn_50 rfl (lv_at hl 0 rfl) ?_
        refine va_get (D := D) (ci := 5) (v := .long ((Q_sd * 6364136223846793005) + 1442695040888963407)) (C := RX5) (T := TX5) (N := 10) hx hb hts iX5_drawn_X5 hown hK.1 hP 0 rfl rfl 9 (by decide) (hts (.fieldLink RX5 60 "DarkPlace" "chance" "J") (List.mem_of_getElem? (i := 3) rfl)) (fun _ h9 => h9) rfl dX5_drawn_51 ?_
        refine lv_bipush (v := 33) hx hb dX5_drawn_54 (by decide) ?_
        refine lv_lushr hx hb dX5_drawn_56 rfl ?_
        refine lv_l2i hx hb dX5_drawn_57 rfl ?_
        refine lv_istore (lv' := [(4, .int (((((Q_sd * 6364136223846793005) + 1442695040888963407).toUInt64 >>> ((33 : Int32).toInt64.toUInt64 &&& Int64.toUInt64 63)).toInt64).toInt32)), (0, .ref hQ), (1, .int x1), (2, .int x2), (3, .int x3)]) hx hb dX5_drawn_58 hl (by decide) rfl (fun ls hl => ?_)
        refine lv_aload_n hx hb dX5_drawn_60 rfl (lv_at hl 1 rfl) ?_
        refine va_get (D := D) (ci := 5) (v := .ref (aQ 4)) (C := RX5) (T := TX5) (N := 10) hx hb hts iX5_drawn_X5 hown hK.1 hP 0 rfl rfl 4 (by decide) (hts (.fieldLink RX5 35 "DarkPlace" "trial" "LDarkPlace$Stand;") (List.mem_of_getElem? (i := 1) rfl)) (fun _ h9 => h9) rfl dX5_drawn_61 ?_
        refine lv_iload hx hb dX5_drawn_64 (lv_at hl 0 rfl) ?_
        refine lv_iconst (v := 4) hx hb dX5_drawn_66 (by decide) ?_
        refine lv_irem hx hb dX5_drawn_67 (by decide) ?_
        refine lv_iload hx hb dX5_drawn_68 (lv_at hl 0 rfl) ?_
        refine lv_iconst (v := 4) hx hb dX5_drawn_70 (by decide) ?_
        refine lv_idiv hx hb dX5_drawn_71 (by decide) ?_
        refine lv_bipush (v := 10) hx hb dX5_drawn_72 (by decide) ?_
        refine lv_irem hx hb dX5_drawn_74 (by decide) ?_
        obtain ⟨⟨r75, i75_0, g75_1, g75_2⟩, k75, hf⟩ := dk_bind hf
        dsimp only at hf
        have hPc := hP.sub (ws' := wSt cy (aQ 4) aU (aQ 1) (U_I, dk_upA (dk_upA U.2 1 U_1) 2 U_2) ++ wNt cy (aQ 1) aG G) [9, 10, 11, 5, 6, 7, 8] rfl
        have hDc := hD.sub (ws' := wSt cy (aQ 4) aU (aQ 1) (U_I, dk_upA (dk_upA U.2 1 U_1) 2 U_2) ++ wNt cy (aQ 1) aG G) [9, 10, 11, 5, 6, 7, 8] (by decide) rfl
        have hFc := va_free (wc := wSt cy (aQ 4) aU (aQ 1) (U_I, dk_upA (dk_upA U.2 1 U_1) 2 U_2) ++ wNt cy (aQ 1) aG G) hD hS hA [9, 10, 11, 5, 6, 7, 8] rfl
        refine va_calli (va_runV (As := [.int ((((((Q_sd * 6364136223846793005) + 1442695040888963407).toUInt64 >>> ((33 : Int32).toInt64.toUInt64 &&& Int64.toUInt64 63)).toInt64).toInt32) - (((((Q_sd * 6364136223846793005) + 1442695040888963407).toUInt64 >>> ((33 : Int32).toInt64.toUInt64 &&& Int64.toUInt64 63)).toInt64).toInt32) / 4 * 4), .int (((((((Q_sd * 6364136223846793005) + 1442695040888963407).toUInt64 >>> ((33 : Int32).toInt64.toUInt64 &&& Int64.toUInt64 63)).toInt64).toInt32) / 4) - ((((((Q_sd * 6364136223846793005) + 1442695040888963407).toUInt64 >>> ((33 : Int32).toInt64.toUInt64 &&& Int64.toUInt64 63)).toInt64).toInt32) / 4) / 10 * 10)]) (rest := []) ⟨hx, hb, hml, hown, hts⟩ (kX3_goIfPossible l D cy (aQ 4) aU (aQ 1) aG H.size (U_I, dk_upA (dk_upA U.2 1 U_1) 2 U_2) G ((((((Q_sd * 6364136223846793005) + 1442695040888963407).toUInt64 >>> ((33 : Int32).toInt64.toUInt64 &&& Int64.toUInt64 63)).toInt64).toInt32) - (((((Q_sd * 6364136223846793005) + 1442695040888963407).toUInt64 >>> ((33 : Int32).toInt64.toUInt64 &&& Int64.toUInt64 63)).toInt64).toInt32) / 4 * 4) (((((((Q_sd * 6364136223846793005) + 1442695040888963407).toUInt64 >>> ((33 : Int32).toInt64.toUInt64 &&& Int64.toUInt64 63)).toInt64).toInt32) / 4) - ((((((Q_sd * 6364136223846793005) + 1442695040888963407).toUInt64 >>> ((33 : Int32).toInt64.toUInt64 &&& Int64.toUInt64 63)).toInt64).toInt32) / 4) / 10 * 10) r75 i75_0 g75_1 g75_2 k75) (cwV 2 hts gX5_drawn_X3_goIfPossible rfl rfl rfl (by decide +kernel) ⟨Nat.le_of_ble_eq_true rfl, Nat.le_of_ble_eq_true rfl⟩) (dk_premV hK hPc hDc (ci := 3) (q0 := 0) rfl rfl) rfl rfl hl.1 rfl (lv_room (Nat.le_of_ble_eq_true rfl)) dX5_drawn_75 ⟨Nat.zero_le _, Nat.zero_le _⟩) hS (fun q _ h => hFc q h) hFc (fun xr75 u t H1 locs ht hvm hw hB hz1 hk1 hS => ?_)
        obtain ⟨hP1, hD1⟩ := hB
        rw [ht] at hP1
        rw [hw]
        obtain ⟨hP, hD⟩ := va_join (wr := ([0, 1, 2, 3, 4] : List Nat).filterMap (fun i => (wDp cy hQ aQ ((Q_sd * 6364136223846793005) + 1442695040888963407) Q ++ wSt cy (aQ 3) aT (aQ 1) T ++ wNt cy (aQ 1) aG G ++ wSt cy (aQ 4) aU (aQ 1) (U_I, dk_upA (dk_upA U.2 1 U_1) 2 U_2))[i]?)) (w1 := wSt cy (aQ 4) aU (aQ 1) (i75_0, dk_upA (dk_upA U.2 1 g75_1) 2 g75_2) ++ wNt cy (aQ 1) aG G) hP hD [9, 10, 11, 5, 6, 7, 8] [0, 1, 2, 3, 4] rfl rfl (by decide) (by decide) hk1 hFc hP1 hD1
        generalize H1 = H at hP hS ⊢
        have hP : va_P D vwCl (wDp cy hQ aQ ((Q_sd * 6364136223846793005) + 1442695040888963407) Q ++ wSt cy (aQ 3) aT (aQ 1) T ++ wNt cy (aQ 1) aG G ++ wSt cy (aQ 4) aU (aQ 1) (i75_0, dk_upA (dk_upA U.2 1 g75_1) 2 g75_2)) H := hP.sub [0, 1, 2, 3, 4, 8, 9, 10, 11, 5, 6, 7] rfl
        have hD : va_D A (wDp cy hQ aQ ((Q_sd * 6364136223846793005) + 1442695040888963407) Q ++ wSt cy (aQ 3) aT (aQ 1) T ++ wNt cy (aQ 1) aG G ++ wSt cy (aQ 4) aU (aQ 1) (i75_0, dk_upA (dk_upA U.2 1 g75_1) 2 g75_2)) := hD.sub [0, 1, 2, 3, 4, 8, 9, 10, 11, 5, 6, 7] (by decide) rfl
        refine lv_pop hx hb dX5_drawn_78 rfl ?_
        refine lv_iload_n hx hb dX5_drawn_79 rfl (lv_at hl 3 rfl) ?_
        refine lv_aload_n hx hb dX5_drawn_80 rfl (lv_at hl 1 rfl) ?_
        refine va_get (D := D) (ci := 5) (v := .ref (aQ 4)) (C := RX5) (T := TX5) (N := 10) hx hb hts iX5_drawn_X5 hown hK.1 hP 0 rfl rfl 4 (by decide) (hts (.fieldLink RX5 35 "DarkPlace" "trial" "LDarkPlace$Stand;") (List.mem_of_getElem? (i := 1) rfl)) (fun _ h9 => h9) rfl dX5_drawn_81 ?_
        obtain ⟨r84, k84, hf⟩ := dk_bind hf
        refine dk_ri (va_runV (As := []) (rest := [.int x2]) ⟨hx, hb, hml, hown, hts⟩ (kX3_living l D cy (aQ 4) aU (aQ 1) aG (i75_0, dk_upA (dk_upA U.2 1 g75_1) 2 g75_2) G r84 k84) (cwV 0 hts gX5_drawn_X3_living rfl rfl rfl (by decide +kernel) ⟨Nat.le_of_ble_eq_true rfl, Nat.le_of_ble_eq_true rfl⟩) (dk_preV hK (hP.sub (ws' := wSt cy (aQ 4) aU (aQ 1) (i75_0, dk_upA (dk_upA U.2 1 g75_1) 2 g75_2) ++ wNt cy (aQ 1) aG G) [9, 10, 11, 5, 6, 7, 8] rfl) (ci := 3) (q0 := 0) rfl rfl) rfl rfl hl.1 rfl (lv_room (Nat.le_of_ble_eq_true rfl)) dX5_drawn_84 ⟨Nat.zero_le _, Nat.zero_le _⟩) ?_
        refine lv_iadd hx hb dX5_drawn_87 ?_
        refine lv_istore_n (lv' := [(2, .int (x2 + r84)), (4, .int (((((Q_sd * 6364136223846793005) + 1442695040888963407).toUInt64 >>> ((33 : Int32).toInt64.toUInt64 &&& Int64.toUInt64 63)).toInt64).toInt32)), (0, .ref hQ), (1, .int x1), (3, .int x3)]) hx hb dX5_drawn_88 rfl hl (by decide) rfl (fun ls hl => ?_)
        refine lv_iinc (v := x3 + 1) (lv' := [(3, .int (x3 + 1)), (2, .int (x2 + r84)), (4, .int (((((Q_sd * 6364136223846793005) + 1442695040888963407).toUInt64 >>> ((33 : Int32).toInt64.toUInt64 &&& Int64.toUInt64 63)).toInt64).toInt32)), (0, .ref hQ), (1, .int x1)]) hx hb dX5_drawn_89 hl (k := 4) rfl rfl (by decide) rfl (fun ls hl => ?_)
        refine lv_goto (tgt := 29) hx hb dX5_drawn_92 (by decide) ?_
        exact ih29 x1 (x2 + r84) (x3 + 1) ((Q_sd * 6364136223846793005) + 1442695040888963407) i75_0 g75_1 g75_2 _ _ _ hP hD hS (lv_sub hl [3, 4, 1, 0] rfl) hf
  unfold fX5_drawn at hf
  refine lv_iload_n hx hb dX5_drawn_0 rfl (lv_at hl 1 rfl) ?_
  refine lv_iconst (v := 1) hx hb dX5_drawn_1 (by decide) ?_
  refine dk_clt (tgt := 11) hx hb dX5_drawn_2 (by decide) hf (fun hf => ?_) (fun hf => ?_)
  · refine lv_bipush (v := (-2)) hx hb dX5_drawn_11 (by decide) ?_
    have e := Option.some.inj hf
    simp only [Prod.mk.injEq] at e
    obtain ⟨e0, e1, e2, e3, e4⟩ := e
    subst e1
    subst e2
    subst e3
    subst e4
    exact W.iret (v := (-2)) hx hb hr (fun t ht hW => ⟨⟨(-2), (), rfl, e0, by rw [ht]; exact hP, hD⟩, hS.F ht⟩) hS.2.2 dX5_drawn_13
  · refine lv_iload_n hx hb dX5_drawn_5 rfl (lv_at hl 1 rfl) ?_
    refine lv_bipush (v := 60) hx hb dX5_drawn_6 (by decide) ?_
    refine dk_cle (tgt := 14) hx hb dX5_drawn_8 (by decide) hf (fun hf => ?_) (fun hf => ?_)
    · refine lv_aload_n hx hb dX5_drawn_14 rfl (lv_at hl 0 rfl) ?_
      refine va_get (D := D) (ci := 5) (v := .ref (aQ 4)) (C := RX5) (T := TX5) (N := 10) hx hb hts iX5_drawn_X5 hown hK.1 hP 0 rfl rfl 4 (by decide) (hts (.fieldLink RX5 35 "DarkPlace" "trial" "LDarkPlace$Stand;") (List.mem_of_getElem? (i := 1) rfl)) (fun _ h9 => h9) rfl dX5_drawn_15 ?_
      refine lv_aload_n hx hb dX5_drawn_18 rfl (lv_at hl 0 rfl) ?_
      refine va_get (D := D) (ci := 5) (v := .ref (aQ 3)) (C := RX5) (T := TX5) (N := 10) hx hb hts iX5_drawn_X5 hown hK.1 hP 0 rfl rfl 3 (by decide) (hts (.fieldLink RX5 31 "DarkPlace" "now" "LDarkPlace$Stand;") (List.mem_of_getElem? (i := 2) rfl)) (fun _ h9 => h9) rfl dX5_drawn_19 ?_
      obtain ⟨⟨i22_0, g22_1, g22_2⟩, k22, hf⟩ := dk_bind hf
      dsimp only at hf
      have hPc := hP.sub (ws' := wSt cy (aQ 4) aU (aQ 1) U ++ wSt cy (aQ 3) aT (aQ 1) T) [9, 10, 11, 2, 3, 4] rfl
      have hDc := hD.sub (ws' := wSt cy (aQ 4) aU (aQ 1) U ++ wSt cy (aQ 3) aT (aQ 1) T) [9, 10, 11, 2, 3, 4] (by decide) rfl
      have hFc := va_free (wc := wSt cy (aQ 4) aU (aQ 1) U ++ wSt cy (aQ 3) aT (aQ 1) T) hD hS hA [9, 10, 11, 2, 3, 4] rfl
      refine va_callv (va_runV (As := [.ref (aQ 3)]) (rest := []) ⟨hx, hb, hml, hown, hts⟩ (kX3_become l D cy (aQ 4) aU (aQ 1) (aQ 3) aT (aQ 1) s.heap.size U T i22_0 g22_1 g22_2 k22) (cwV 1 hts gX5_drawn_X3_become rfl rfl rfl (by decide +kernel) ⟨Nat.le_of_ble_eq_true rfl, Nat.le_of_ble_eq_true rfl⟩) (dk_premV hK hPc hDc (ci := 3) (q0 := 0) rfl rfl) rfl rfl hl.1 rfl (lv_room (Nat.le_of_ble_eq_true rfl)) dX5_drawn_22 ⟨Nat.zero_le _, Nat.zero_le _⟩) hS (fun q _ h => hFc q h) hFc (fun u t H1 locs ht hvm hw hB hz1 hk1 hS => ?_)
      obtain ⟨hP1, hD1⟩ := hB
      rw [ht] at hP1
      obtain ⟨hP, hD⟩ := va_join (wr := ([0, 1, 5, 6, 7, 8] : List Nat).filterMap (fun i => (wDp cy hQ aQ sdQ Q ++ wSt cy (aQ 3) aT (aQ 1) T ++ wNt cy (aQ 1) aG G ++ wSt cy (aQ 4) aU (aQ 1) U)[i]?)) (w1 := wSt cy (aQ 4) aU (aQ 1) (i22_0, dk_upA (dk_upA U.2 1 g22_1) 2 g22_2) ++ wSt cy (aQ 3) aT (aQ 1) T) hP hD [9, 10, 11, 2, 3, 4] [0, 1, 5, 6, 7, 8] rfl rfl (by decide) (by decide) hk1 hFc hP1 hD1
      generalize H1 = H at hP hS ⊢
      have hP : va_P D vwCl (wDp cy hQ aQ sdQ Q ++ wSt cy (aQ 3) aT (aQ 1) T ++ wNt cy (aQ 1) aG G ++ wSt cy (aQ 4) aU (aQ 1) (i22_0, dk_upA (dk_upA U.2 1 g22_1) 2 g22_2)) H := hP.sub [0, 1, 9, 10, 11, 2, 3, 4, 5, 6, 7, 8] rfl
      have hD : va_D A (wDp cy hQ aQ sdQ Q ++ wSt cy (aQ 3) aT (aQ 1) T ++ wNt cy (aQ 1) aG G ++ wSt cy (aQ 4) aU (aQ 1) (i22_0, dk_upA (dk_upA U.2 1 g22_1) 2 g22_2)) := hD.sub [0, 1, 9, 10, 11, 2, 3, 4, 5, 6, 7, 8] (by decide) rfl
      refine lv_iconst (v := 0) hx hb dX5_drawn_25 (by decide) ?_
      refine lv_istore_n (lv' := [(2, .int 0), (0, .ref hQ), (1, .int v1)]) hx hb dX5_drawn_26 rfl hl (by decide) rfl (fun ls hl => ?_)
      refine lv_iconst (v := 0) hx hb dX5_drawn_27 (by decide) ?_
      refine lv_istore_n (lv' := [(3, .int 0), (2, .int 0), (0, .ref hQ), (1, .int v1)]) hx hb dX5_drawn_28 rfl hl (by decide) rfl (fun ls hl => ?_)
      exact L29 1000 v1 0 0 sdQ i22_0 g22_1 g22_2 _ _ _ hP hD hS (lv_sub hl [2, 3, 1, 0] rfl) hf
    · refine lv_bipush (v := (-2)) hx hb dX5_drawn_11 (by decide) ?_
      have e := Option.some.inj hf
      simp only [Prod.mk.injEq] at e
      obtain ⟨e0, e1, e2, e3, e4⟩ := e
      subst e1
      subst e2
      subst e3
      subst e4
      exact W.iret (v := (-2)) hx hb hr (fun t ht hW => ⟨⟨(-2), (), rfl, e0, by rw [ht]; exact hP, hD⟩, hS.F ht⟩) hS.2.2 dX5_drawn_13
