-- printed by wip/gen (walks of the bytecode)
theorem iX3_addSearcher_X1 : ∀ w ∈ wsX10, w ∈ wsX3_addSearcher := fun _ h => List.mem_cons_of_mem _ (List.mem_append_right _ h)
theorem iX3_addSearcher_X3 : ∀ w ∈ wsX30, w ∈ wsX3_addSearcher := fun _ h => List.mem_cons_of_mem _ (List.mem_append_left _ (List.mem_append_right _ h))
set_option maxHeartbeats 4000000 in
set_option maxRecDepth 100000 in
theorem kX3_addSearcher (l : Launch) (D : va_G) (cy : Nat → ClassId) (hT : Nat) (aT : Nat → Nat) (hG : Nat) (aG : Nat → Nat) (sz : Nat) (T : dk_O) (G : dk_O)  (r : Int32) (oT_I : (Nat → Int32)) (oT_1 : (Nat → Int32)) (oT_2 : (Nat → Int32)) (hf : fX3_addSearcher T G = some (r, oT_I, oT_1, oT_2)) : dk_MuI l yX3_addSearcher wsX3_addSearcher ({ frames := 0, cells := 0, slots := 0, locals := 0 }) D cy [.ref hT] (wSt cy hT aT hG T ++ wNt cy hG aG G) (wSt cy hT aT hG (oT_I, dk_upA (dk_upA T.2 1 oT_1) 2 oT_2) ++ wNt cy hG aG G) sz r := by
  refine Met.ofW (cc := cX3_addSearcher) (maxL := 2) (ret := (some .int)) (by decide) rfl ?_
  intro p e s m args below meth c s₁ B hml hv
  obtain ⟨rfl, hsz, hP, hK, hD0⟩ := hv
  have hx := B.exec
  have hb := B.bytes
  have hr := B.returns
  have hts := atoms_spec (ws := wsX3_addSearcher) B.pre
  have hown : s.vm.findClass RX3 = some m.cls := findClass_of_methodNamed B.named
  have hlocks := B.notSynchronized
  subst hsz
  have hD := hD0.self (sz := s.heap.size)
  generalize hAe : va_A (wSt cy hT aT hG T ++ wNt cy hG aG G) s.heap.size = A at hD ⊢
  have hA : ∀ q : Nat, s.heap.size ≤ q → A q := fun q h => by rw [← hAe]; exact Or.inr h
  have hS : va_S A s.heap s.heap [] := va_S.rf
  have hl := lv_entry ([.ref hT]) (n := 2) (Nat.le_of_ble_eq_true rfl)
  rw [lg_entry_eq]
  generalize (lg_sl ([.ref hT]) ++ List.replicate (2 - (lg_sl ([.ref hT])).length) Slot.unset).toArray = ls at hl ⊢
  have hl : lv_has ls 2 [(0, .ref hT)] := hl
  unfold fX3_addSearcher at hf
  refine lv_aload_n hx hb dX3_addSearcher_0 rfl (lv_at hl 0 rfl) ?_
  refine va_get (D := D) (ci := 3) (v := .int (T.1 3)) (C := RX3) (T := TX3) (N := 9) hx hb hts iX3_addSearcher_X3 hown hK.1 hP 0 rfl rfl 3 (by decide) (hts (.fieldLink RX3 18 "DarkPlace$Stand" "searchers" "I") (List.mem_of_getElem? (i := 1) rfl)) (fun _ h9 => h9) rfl dX3_addSearcher_1 ?_
  refine lv_istore_n (lv' := [(1, .int (T.1 3)), (0, .ref hT)]) hx hb dX3_addSearcher_4 rfl hl (by decide) rfl (fun ls hl => ?_)
  refine lv_iload_n hx hb dX3_addSearcher_5 rfl (lv_at hl 0 rfl) ?_
  refine lv_iconst (v := 4) hx hb dX3_addSearcher_6 (by decide) ?_
  refine dk_cge (tgt := 41) hx hb dX3_addSearcher_7 (by decide) hf (fun hf => ?_) (fun hf => ?_)
  · refine lv_iload_n hx hb dX3_addSearcher_41 rfl (lv_at hl 0 rfl) ?_
    have e := Option.some.inj hf
    simp only [Prod.mk.injEq] at e
    obtain ⟨e0, e1, e2, e3⟩ := e
    subst e1
    subst e2
    subst e3
    exact W.iret (v := T.1 3) hx hb hr (fun t ht hW => ⟨⟨T.1 3, (), rfl, e0, by rw [ht]; exact hP, hD⟩, hS.F ht⟩) hS.2.2 dX3_addSearcher_42
  · refine lv_aload_n hx hb dX3_addSearcher_10 rfl (lv_at hl 1 rfl) ?_
    refine va_get (D := D) (ci := 3) (v := .ref (aT 1)) (C := RX3) (T := TX3) (N := 9) hx hb hts iX3_addSearcher_X3 hown hK.1 hP 0 rfl rfl 1 (by decide) (hts (.fieldLink RX3 9 "DarkPlace$Stand" "at" "[I") (List.mem_of_getElem? (i := 2) rfl)) (fun _ h9 => h9) rfl dX3_addSearcher_11 ?_
    refine lv_iload_n hx hb dX3_addSearcher_14 rfl (lv_at hl 0 rfl) ?_
    refine lv_aload_n hx hb dX3_addSearcher_15 rfl (lv_at hl 1 rfl) ?_
    refine va_get (D := D) (ci := 3) (v := .ref hG) (C := RX3) (T := TX3) (N := 9) hx hb hts iX3_addSearcher_X3 hown hK.1 hP 0 rfl rfl 0 (by decide) (hts (.fieldLink RX3 37 "DarkPlace$Stand" "net" "LDarkPlace$Net;") (List.mem_of_getElem? (i := 3) rfl)) (fun _ h9 => h9) rfl dX3_addSearcher_16 ?_
    refine va_getN (D := D) (ci := 1) (v := .int (G.1 1)) (C := RX1) (T := TX1) (N := 9) hx hb hts iX3_addSearcher_X1 hown hK.1 hP 3 rfl rfl 1 (by decide) (va_Nw.use rfl (hK.2 (.fieldLinkNest "DarkPlace$Stand" 55 "DarkPlace$Net" "home" "I" "DarkPlace") (List.mem_of_getElem? (i := 3) rfl))) (fun _ h9 => h9) rfl dX3_addSearcher_19 ?_
    refine dk_iast hx hb hK.1 hP hD hS 1 0 rfl rfl hf dX3_addSearcher_22 (fun f22 H locs hP hD hS hf => ?_)
    have hP : va_P D vwCl (wSt cy hT aT hG (T.1, dk_upA T.2 1 f22) ++ wNt cy hG aG G) H := hP
    have hD : va_D A (wSt cy hT aT hG (T.1, dk_upA T.2 1 f22) ++ wNt cy hG aG G) := hD
    refine lv_aload_n hx hb dX3_addSearcher_23 rfl (lv_at hl 1 rfl) ?_
    refine va_get (D := D) (ci := 3) (v := .ref (aT 2)) (C := RX3) (T := TX3) (N := 9) hx hb hts iX3_addSearcher_X3 hown hK.1 hP 0 rfl rfl 2 (by decide) (hts (.fieldLink RX3 15 "DarkPlace$Stand" "out" "[I") (List.mem_of_getElem? (i := 4) rfl)) (fun _ h9 => h9) rfl dX3_addSearcher_24 ?_
    refine lv_iload_n hx hb dX3_addSearcher_27 rfl (lv_at hl 0 rfl) ?_
    refine lv_bipush (v := (-9)) hx hb dX3_addSearcher_28 (by decide) ?_
    refine dk_iast hx hb hK.1 hP hD hS 2 0 rfl rfl hf dX3_addSearcher_30 (fun f30 H locs hP hD hS hf => ?_)
    have hP : va_P D vwCl (wSt cy hT aT hG (T.1, dk_upA (dk_upA T.2 1 f22) 2 f30) ++ wNt cy hG aG G) H := hP
    have hD : va_D A (wSt cy hT aT hG (T.1, dk_upA (dk_upA T.2 1 f22) 2 f30) ++ wNt cy hG aG G) := hD
    refine lv_aload_n hx hb dX3_addSearcher_31 rfl (lv_at hl 1 rfl) ?_
    refine lv_dup hx hb dX3_addSearcher_32 rfl ?_
    refine va_get (D := D) (ci := 3) (v := .int (T.1 3)) (C := RX3) (T := TX3) (N := 9) hx hb hts iX3_addSearcher_X3 hown hK.1 hP 0 rfl rfl 3 (by decide) (hts (.fieldLink RX3 18 "DarkPlace$Stand" "searchers" "I") (List.mem_of_getElem? (i := 1) rfl)) (fun _ h9 => h9) rfl dX3_addSearcher_33 ?_
    refine lv_iconst (v := 1) hx hb dX3_addSearcher_36 (by decide) ?_
    refine lv_iadd hx hb dX3_addSearcher_37 ?_
    refine va_put (D := D) (ci := 3) (v := .int ((T.1 3) + 1)) (ty := .int) (C := RX3) (T := TX3) (N := 9) hx hb hts iX3_addSearcher_X3 tyX3 tyX3_ok nmX3 hown hK.1 hP hD hS 0 rfl rfl 3 (by decide) (hts (.fieldLink RX3 18 "DarkPlace$Stand" "searchers" "I") (List.mem_of_getElem? (i := 1) rfl)) (fun _ h9 => h9) rfl (by decide +kernel) rfl rfl (Nat.le_of_ble_eq_true rfl) dX3_addSearcher_38 (fun H locs hP hD hS => ?_)
    have hP : va_P D vwCl (wSt cy hT aT hG (upd T.1 3 ((T.1 3) + 1), dk_upA (dk_upA T.2 1 f22) 2 f30) ++ wNt cy hG aG G) H := hP
    have hD : va_D A (wSt cy hT aT hG (upd T.1 3 ((T.1 3) + 1), dk_upA (dk_upA T.2 1 f22) 2 f30) ++ wNt cy hG aG G) := hD
    refine lv_iload_n hx hb dX3_addSearcher_41 rfl (lv_at hl 0 rfl) ?_
    have e := Option.some.inj hf
    simp only [Prod.mk.injEq] at e
    obtain ⟨e0, e1, e2, e3⟩ := e
    subst e1
    subst e2
    subst e3
    exact W.iret (v := T.1 3) hx hb hr (fun t ht hW => ⟨⟨T.1 3, (), rfl, e0, by rw [ht]; exact hP, hD⟩, hS.F ht⟩) hS.2.2 dX3_addSearcher_42
theorem iX3_openEdges_X3 : ∀ w ∈ wsX30, w ∈ wsX3_openEdges := fun _ h => List.mem_cons_of_mem _ (List.mem_append_left _ (List.mem_append_right _ h))
set_option maxHeartbeats 4000000 in
set_option maxRecDepth 100000 in
theorem kX3_openEdges (l : Launch) (D : va_G) (cy : Nat → ClassId) (hT : Nat) (aT : Nat → Nat) (hG : Nat) (aG : Nat → Nat) (T : dk_O) (G : dk_O) (v1 : Int32) (r : Int32) (hf : fX3_openEdges T G v1 = some r) : dk_RdI l yX3_openEdges wsX3_openEdges ({ frames := 2, cells := 0, slots := 0, locals := 42 }) D cy [.ref hT, .int v1] (wSt cy hT aT hG T ++ wNt cy hG aG G) r := by
  refine Met.ofW (cc := cX3_openEdges) (maxL := 3) (ret := (some .int)) (by decide) rfl ?_
  intro p e s m args below meth c s₁ B hml hv
  obtain ⟨rfl, hP, hK⟩ := hv
  have hx := B.exec
  have hb := B.bytes
  have hr := B.returns
  have hts := atoms_spec (ws := wsX3_openEdges) B.pre
  have hown : s.vm.findClass RX3 = some m.cls := findClass_of_methodNamed B.named
  have hlocks := B.notSynchronized
  have hl := lv_entry ([.ref hT, .int v1]) (n := 3) (Nat.le_of_ble_eq_true rfl)
  rw [lg_entry_eq]
  generalize (lg_sl ([.ref hT, .int v1]) ++ List.replicate (3 - (lg_sl ([.ref hT, .int v1])).length) Slot.unset).toArray = ls at hl ⊢
  have hl : lv_has ls 3 [(0, .ref hT), (1, .int v1)] := hl
  have L65 : ∀ (x1 : Int32) (s0 : Int32) (ls : Array Slot), lv_has ls 3 [(0, .ref hT), (1, .int x1)] → fX3_openEdges_L65 T G x1 s0 = some r → W p l e (headSpec wsX3_openEdges ({ frames := 2, cells := 0, slots := 0, locals := 42 })).room s m ([.ref hT, .int v1]).toArray below meth c s.heap [] 0 0 (MQ below (vp_Si (fun x => x = r)) ([.ref hT, .int v1]).toArray s 0 0 (fun _ => False)) (F0 m 65 ls [.int s0]) := by
    intro x1 s0 ls hl hf
    unfold fX3_openEdges_L65 at hf
    refine lv_istore_n (lv' := [(2, .int s0), (0, .ref hT), (1, .int x1)]) hx hb dX3_openEdges_65 rfl hl (by decide) rfl (fun ls hl => ?_)
    refine lv_aload_n hx hb dX3_openEdges_66 rfl (lv_at hl 1 rfl) ?_
    refine va_get (D := D) (ci := 3) (v := .ref hG) (C := RX3) (T := TX3) (N := 9) hx hb hts iX3_openEdges_X3 hown hK.1 hP 0 rfl rfl 0 (by decide) (hts (.fieldLink RX3 37 "DarkPlace$Stand" "net" "LDarkPlace$Net;") (List.mem_of_getElem? (i := 3) rfl)) (fun _ h9 => h9) rfl dX3_openEdges_67 ?_
    refine lv_aload_n hx hb dX3_openEdges_70 rfl (lv_at hl 1 rfl) ?_
    refine va_get (D := D) (ci := 3) (v := .ref (aT 1)) (C := RX3) (T := TX3) (N := 9) hx hb hts iX3_openEdges_X3 hown hK.1 hP 0 rfl rfl 1 (by decide) (hts (.fieldLink RX3 9 "DarkPlace$Stand" "at" "[I") (List.mem_of_getElem? (i := 4) rfl)) (fun _ h9 => h9) rfl dX3_openEdges_71 ?_
    refine lv_iload_n hx hb dX3_openEdges_74 rfl (lv_at hl 2 rfl) ?_
    refine dk_iald hx hb hK.1 hP 1 0 rfl rfl hf dX3_openEdges_75 (fun d75 hf => ?_)
    obtain ⟨r76, k76, hf⟩ := dk_bind hf
    refine dk_ri (va_runV (As := [.int d75]) (rest := []) ⟨hx, hb, hml, hown, hts⟩ (kX1_edgesFrom l D cy hG aG G d75 r76 k76) (cwV 1 hts gX3_openEdges_X1_edgesFrom rfl rfl rfl (by decide +kernel) ⟨Nat.le_of_ble_eq_true rfl, Nat.le_of_ble_eq_true rfl⟩) (dk_preV hK (hP.sub (ws' := wNt cy hG aG G) [3, 4, 5, 6] rfl) (ci := 1) (q0 := 0) rfl rfl) rfl rfl hl.1 rfl (lv_room (Nat.le_of_ble_eq_true rfl)) dX3_openEdges_76 ⟨Nat.zero_le _, Nat.zero_le _⟩) ?_
    refine lv_aload_n hx hb dX3_openEdges_79 rfl (lv_at hl 1 rfl) ?_
    refine va_get (D := D) (ci := 3) (v := .int (T.1 7)) (C := RX3) (T := TX3) (N := 9) hx hb hts iX3_openEdges_X3 hown hK.1 hP 0 rfl rfl 7 (by decide) (hts (.fieldLink RX3 31 "DarkPlace$Stand" "safe" "I") (List.mem_of_getElem? (i := 5) rfl)) (fun _ h9 => h9) rfl dX3_openEdges_80 ?_
    refine lv_iload_n hx hb dX3_openEdges_83 rfl (lv_at hl 0 rfl) ?_
    refine lv_ior hx hb dX3_openEdges_84 ?_
    refine lv_iand hx hb dX3_openEdges_85 ?_
    exact W.iret (v := r76 &&& ((T.1 7) ||| s0)) hx hb hr (fun t ht hW => ⟨r76 &&& ((T.1 7) ||| s0), rfl, Option.some.inj hf, ht⟩) t_nil dX3_openEdges_86
  unfold fX3_openEdges at hf
  refine lv_aload_n hx hb dX3_openEdges_0 rfl (lv_at hl 0 rfl) ?_
  refine lv_iload_n hx hb dX3_openEdges_1 rfl (lv_at hl 1 rfl) ?_
  obtain ⟨r2, k2, hf⟩ := dk_bind hf
  refine dk_ri (va_runV (As := [.int v1]) (rest := []) ⟨hx, hb, hml, hown, hts⟩ (kX3_lives l D cy hT aT hG aG T G v1 r2 k2) (cwV 1 hts gX3_openEdges_X3_lives rfl rfl rfl (by decide +kernel) ⟨Nat.le_of_ble_eq_true rfl, Nat.le_of_ble_eq_true rfl⟩) (dk_preV hK (hP.sub (ws' := wSt cy hT aT hG T ++ wNt cy hG aG G) [0, 1, 2, 3, 4, 5, 6] rfl) (ci := 3) (q0 := 0) rfl rfl) rfl rfl hl.1 rfl (lv_room (Nat.le_of_ble_eq_true rfl)) dX3_openEdges_2 ⟨Nat.zero_le _, Nat.zero_le _⟩) ?_
  refine dk_ine (tgt := 10) hx hb dX3_openEdges_5 (by decide) hf (fun hf => ?_) (fun hf => ?_)
  · refine lv_aload_n hx hb dX3_openEdges_10 rfl (lv_at hl 0 rfl) ?_
    refine va_get (D := D) (ci := 3) (v := .ref (aT 2)) (C := RX3) (T := TX3) (N := 9) hx hb hts iX3_openEdges_X3 hown hK.1 hP 0 rfl rfl 2 (by decide) (hts (.fieldLink RX3 15 "DarkPlace$Stand" "out" "[I") (List.mem_of_getElem? (i := 1) rfl)) (fun _ h9 => h9) rfl dX3_openEdges_11 ?_
    refine lv_iload_n hx hb dX3_openEdges_14 rfl (lv_at hl 1 rfl) ?_
    refine dk_iald hx hb hK.1 hP 2 0 rfl rfl hf dX3_openEdges_15 (fun d15 hf => ?_)
    refine lv_bipush (v := (-9)) hx hb dX3_openEdges_16 (by decide) ?_
    refine dk_ceq (tgt := 30) hx hb dX3_openEdges_18 (by decide) hf (fun hf => ?_) (fun hf => ?_)
    · refine lv_aload_n hx hb dX3_openEdges_30 rfl (lv_at hl 0 rfl) ?_
      obtain ⟨r31, k31, hf⟩ := dk_bind hf
      refine dk_ri (va_runV (As := []) (rest := []) ⟨hx, hb, hml, hown, hts⟩ (kX3_isKnown l D cy hT aT hG aG T G r31 k31) (cwV 0 hts gX3_openEdges_X3_isKnown rfl rfl rfl (by decide +kernel) ⟨Nat.le_of_ble_eq_true rfl, Nat.le_of_ble_eq_true rfl⟩) (dk_preV hK (hP.sub (ws' := wSt cy hT aT hG T ++ wNt cy hG aG G) [0, 1, 2, 3, 4, 5, 6] rfl) (ci := 3) (q0 := 0) rfl rfl) rfl rfl hl.1 rfl (lv_room (Nat.le_of_ble_eq_true rfl)) dX3_openEdges_31 ⟨Nat.zero_le _, Nat.zero_le _⟩) ?_
      refine dk_ieq (tgt := 61) hx hb dX3_openEdges_34 (by decide) hf (fun hf => ?_) (fun hf => ?_)
      · refine lv_aload_n hx hb dX3_openEdges_61 rfl (lv_at hl 0 rfl) ?_
        refine va_get (D := D) (ci := 3) (v := .int (T.1 6)) (C := RX3) (T := TX3) (N := 9) hx hb hts iX3_openEdges_X3 hown hK.1 hP 0 rfl rfl 6 (by decide) (hts (.fieldLink RX3 28 "DarkPlace$Stand" "unseen" "I") (List.mem_of_getElem? (i := 2) rfl)) (fun _ h9 => h9) rfl dX3_openEdges_62 ?_
        exact L65 v1 (T.1 6) _ (lv_sub hl [0, 1] rfl) hf
      · refine lv_aload_n hx hb dX3_openEdges_37 rfl (lv_at hl 0 rfl) ?_
        refine va_get (D := D) (ci := 3) (v := .int (T.1 6)) (C := RX3) (T := TX3) (N := 9) hx hb hts iX3_openEdges_X3 hown hK.1 hP 0 rfl rfl 6 (by decide) (hts (.fieldLink RX3 28 "DarkPlace$Stand" "unseen" "I") (List.mem_of_getElem? (i := 2) rfl)) (fun _ h9 => h9) rfl dX3_openEdges_38 ?_
        refine lv_aload_n hx hb dX3_openEdges_41 rfl (lv_at hl 0 rfl) ?_
        refine va_get (D := D) (ci := 3) (v := .ref hG) (C := RX3) (T := TX3) (N := 9) hx hb hts iX3_openEdges_X3 hown hK.1 hP 0 rfl rfl 0 (by decide) (hts (.fieldLink RX3 37 "DarkPlace$Stand" "net" "LDarkPlace$Net;") (List.mem_of_getElem? (i := 3) rfl)) (fun _ h9 => h9) rfl dX3_openEdges_42 ?_
        refine lv_aload_n hx hb dX3_openEdges_45 rfl (lv_at hl 0 rfl) ?_
        obtain ⟨r46, k46, hf⟩ := dk_bind hf
        refine dk_ri (va_runV (As := []) (rest := [.ref hG, .int (T.1 6)]) ⟨hx, hb, hml, hown, hts⟩ (kX3_mayBe l D cy hT aT hG aG T G r46 k46) (cwV 0 hts gX3_openEdges_X3_mayBe rfl rfl rfl (by decide +kernel) ⟨Nat.le_of_ble_eq_true rfl, Nat.le_of_ble_eq_true rfl⟩) (dk_preV hK (hP.sub (ws' := wSt cy hT aT hG T ++ wNt cy hG aG G) [0, 1, 2, 3, 4, 5, 6] rfl) (ci := 3) (q0 := 0) rfl rfl) rfl rfl hl.1 rfl (lv_room (Nat.le_of_ble_eq_true rfl)) dX3_openEdges_46 ⟨Nat.zero_le _, Nat.zero_le _⟩) ?_
        obtain ⟨r49, k49, hf⟩ := dk_bind hf
        refine dk_ri (va_runSN (As := [.int r46]) (rest := [.ref hG, .int (T.1 6)]) ⟨hx, hb, hml, hown, hts⟩ (kX5_least l D cy r46 r49 k49) ⟨va_cnB 1 hts gX3_openEdges_X5_least_n102 rfl rfl rfl (hK.2 (.methodLinkNest "DarkPlace$Stand" 102 ⟨"DarkPlace", "least", "(I)I"⟩ "DarkPlace") (List.mem_of_getElem? (i := 22) rfl)) (hts (.initialized RX5) (List.mem_of_getElem? (i := 33) rfl)) (by decide +kernel) ⟨Nat.le_of_ble_eq_true rfl, Nat.le_of_ble_eq_true rfl⟩, (hts (.static yX5_least) (List.mem_of_getElem? (i := 32) rfl)), trivial⟩ (dk_preS hK (hP.sub (ws' := []) [] rfl)) rfl rfl hl.1 rfl (lv_room (Nat.le_of_ble_eq_true rfl)) dX3_openEdges_49 ⟨Nat.zero_le _, Nat.zero_le _⟩) ?_
        obtain ⟨r52, k52, hf⟩ := dk_bind hf
        refine dk_ri (va_runV (As := [.int r49]) (rest := [.int (T.1 6)]) ⟨hx, hb, hml, hown, hts⟩ (kX1_edgesFrom l D cy hG aG G r49 r52 k52) (cwV 1 hts gX3_openEdges_X1_edgesFrom rfl rfl rfl (by decide +kernel) ⟨Nat.le_of_ble_eq_true rfl, Nat.le_of_ble_eq_true rfl⟩) (dk_preV hK (hP.sub (ws' := wNt cy hG aG G) [3, 4, 5, 6] rfl) (ci := 1) (q0 := 0) rfl rfl) rfl rfl hl.1 rfl (lv_room (Nat.le_of_ble_eq_true rfl)) dX3_openEdges_52 ⟨Nat.zero_le _, Nat.zero_le _⟩) ?_
        refine lv_iconst (v := (-1)) hx hb dX3_openEdges_55 (by decide) ?_
        refine lv_ixor hx hb dX3_openEdges_56 ?_
        refine lv_iand hx hb dX3_openEdges_57 ?_
        refine lv_goto (tgt := 65) hx hb dX3_openEdges_58 (by decide) ?_
        exact L65 v1 ((T.1 6) &&& (r52 ^^^ (-1))) _ (lv_sub hl [0, 1] rfl) hf
    · refine lv_iconst (v := 1) hx hb dX3_openEdges_21 (by decide) ?_
      refine lv_aload_n hx hb dX3_openEdges_22 rfl (lv_at hl 0 rfl) ?_
      refine va_get (D := D) (ci := 3) (v := .ref (aT 2)) (C := RX3) (T := TX3) (N := 9) hx hb hts iX3_openEdges_X3 hown hK.1 hP 0 rfl rfl 2 (by decide) (hts (.fieldLink RX3 15 "DarkPlace$Stand" "out" "[I") (List.mem_of_getElem? (i := 1) rfl)) (fun _ h9 => h9) rfl dX3_openEdges_23 ?_
      refine lv_iload_n hx hb dX3_openEdges_26 rfl (lv_at hl 1 rfl) ?_
      refine dk_iald hx hb hK.1 hP 2 0 rfl rfl hf dX3_openEdges_27 (fun d27 hf => ?_)
      refine lv_ishl hx hb dX3_openEdges_28 ?_
      exact W.iret (v := (1 : Int32) <<< (d27 &&& 31)) hx hb hr (fun t ht hW => ⟨(1 : Int32) <<< (d27 &&& 31), rfl, Option.some.inj hf, ht⟩) t_nil dX3_openEdges_29
  · refine lv_iconst (v := 0) hx hb dX3_openEdges_8 (by decide) ?_
    exact W.iret (v := 0) hx hb hr (fun t ht hW => ⟨0, rfl, Option.some.inj hf, ht⟩) t_nil dX3_openEdges_9
theorem iX3_canGo_X3 : ∀ w ∈ wsX30, w ∈ wsX3_canGo := fun _ h => List.mem_cons_of_mem _ (List.mem_append_left _ (List.mem_append_right _ h))
set_option maxHeartbeats 4000000 in
set_option maxRecDepth 100000 in
theorem kX3_canGo (l : Launch) (D : va_G) (cy : Nat → ClassId) (hT : Nat) (aT : Nat → Nat) (hG : Nat) (aG : Nat → Nat) (T : dk_O) (G : dk_O) (v1 : Int32) (v2 : Int32) (r : Int32) (hf : fX3_canGo T G v1 v2 = some r) : dk_RdI l yX3_canGo wsX3_canGo ({ frames := 3, cells := 0, slots := 0, locals := 64 }) D cy [.ref hT, .int v1, .int v2] (wSt cy hT aT hG T ++ wNt cy hG aG G) r := by
  refine Met.ofW (cc := cX3_canGo) (maxL := 3) (ret := (some .boolean)) (by decide) rfl ?_
  intro p e s m args below meth c s₁ B hml hv
  obtain ⟨rfl, hP, hK⟩ := hv
  have hx := B.exec
  have hb := B.bytes
  have hr := B.returns
  have hts := atoms_spec (ws := wsX3_canGo) B.pre
  have hown : s.vm.findClass RX3 = some m.cls := findClass_of_methodNamed B.named
  have hlocks := B.notSynchronized
  have hl := lv_entry ([.ref hT, .int v1, .int v2]) (n := 3) (Nat.le_of_ble_eq_true rfl)
  rw [lg_entry_eq]
  generalize (lg_sl ([.ref hT, .int v1, .int v2]) ++ List.replicate (3 - (lg_sl ([.ref hT, .int v1, .int v2])).length) Slot.unset).toArray = ls at hl ⊢
  have hl : lv_has ls 3 [(0, .ref hT), (1, .int v1), (2, .int v2)] := hl
  unfold fX3_canGo at hf
  refine lv_aload_n hx hb dX3_canGo_0 rfl (lv_at hl 0 rfl) ?_
  refine va_get (D := D) (ci := 3) (v := .ref hG) (C := RX3) (T := TX3) (N := 9) hx hb hts iX3_canGo_X3 hown hK.1 hP 0 rfl rfl 0 (by decide) (hts (.fieldLink RX3 37 "DarkPlace$Stand" "net" "LDarkPlace$Net;") (List.mem_of_getElem? (i := 1) rfl)) (fun _ h9 => h9) rfl dX3_canGo_1 ?_
  refine lv_iload_n hx hb dX3_canGo_4 rfl (lv_at hl 2 rfl) ?_
  obtain ⟨r5, k5, hf⟩ := dk_bind hf
  refine dk_ri (va_runV (As := [.int v2]) (rest := []) ⟨hx, hb, hml, hown, hts⟩ (kX1_isEdge l D cy hG aG G v2 r5 k5) (cwV 1 hts gX3_canGo_X1_isEdge rfl rfl rfl (by decide +kernel) ⟨Nat.le_of_ble_eq_true rfl, Nat.le_of_ble_eq_true rfl⟩) (dk_preV hK (hP.sub (ws' := wNt cy hG aG G) [3, 4, 5, 6] rfl) (ci := 1) (q0 := 0) rfl rfl) rfl rfl hl.1 rfl (lv_room (Nat.le_of_ble_eq_true rfl)) dX3_canGo_5 ⟨Nat.zero_le _, Nat.zero_le _⟩) ?_
  refine dk_ieq (tgt := 27) hx hb dX3_canGo_8 (by decide) hf (fun hf => ?_) (fun hf => ?_)
  · refine lv_iconst (v := 0) hx hb dX3_canGo_27 (by decide) ?_
    exact W.zret (v := 0) hx hb hr rfl (fun t ht hW => ⟨0, rfl, Option.some.inj hf, ht⟩) t_nil dX3_canGo_28
  · refine lv_aload_n hx hb dX3_canGo_11 rfl (lv_at hl 0 rfl) ?_
    refine lv_iload_n hx hb dX3_canGo_12 rfl (lv_at hl 1 rfl) ?_
    obtain ⟨r13, k13, hf⟩ := dk_bind hf
    refine dk_ri (va_runV (As := [.int v1]) (rest := []) ⟨hx, hb, hml, hown, hts⟩ (kX3_openEdges l D cy hT aT hG aG T G v1 r13 k13) (cwV 1 hts gX3_canGo_X3_openEdges rfl rfl rfl (by decide +kernel) ⟨Nat.le_of_ble_eq_true rfl, Nat.le_of_ble_eq_true rfl⟩) (dk_preV hK (hP.sub (ws' := wSt cy hT aT hG T ++ wNt cy hG aG G) [0, 1, 2, 3, 4, 5, 6] rfl) (ci := 3) (q0 := 0) rfl rfl) rfl rfl hl.1 rfl (lv_room (Nat.le_of_ble_eq_true rfl)) dX3_canGo_13 ⟨Nat.zero_le _, Nat.zero_le _⟩) ?_
    refine lv_iload_n hx hb dX3_canGo_16 rfl (lv_at hl 2 rfl) ?_
    obtain ⟨r17, k17, hf⟩ := dk_bind hf
    refine dk_ri (va_runSN (As := [.int r13, .int v2]) (rest := []) ⟨hx, hb, hml, hown, hts⟩ (kX5_holds l D cy r13 v2 r17 k17) ⟨va_cnB 2 hts gX3_canGo_X5_holds_n85 rfl rfl rfl (hK.2 (.methodLinkNest "DarkPlace$Stand" 85 ⟨"DarkPlace", "holds", "(II)Z"⟩ "DarkPlace") (List.mem_of_getElem? (i := 21) rfl)) (hts (.initialized RX5) (List.mem_of_getElem? (i := 43) rfl)) (by decide +kernel) ⟨Nat.le_of_ble_eq_true rfl, Nat.le_of_ble_eq_true rfl⟩, (hts (.static yX5_holds) (List.mem_of_getElem? (i := 50) rfl)), trivial⟩ (dk_preS hK (hP.sub (ws' := []) [] rfl)) rfl rfl hl.1 rfl (lv_room (Nat.le_of_ble_eq_true rfl)) dX3_canGo_17 ⟨Nat.zero_le _, Nat.zero_le _⟩) ?_
    refine dk_ieq (tgt := 27) hx hb dX3_canGo_20 (by decide) hf (fun hf => ?_) (fun hf => ?_)
    · refine lv_iconst (v := 0) hx hb dX3_canGo_27 (by decide) ?_
      exact W.zret (v := 0) hx hb hr rfl (fun t ht hW => ⟨0, rfl, Option.some.inj hf, ht⟩) t_nil dX3_canGo_28
    · refine lv_iconst (v := 1) hx hb dX3_canGo_23 (by decide) ?_
      refine lv_goto (tgt := 28) hx hb dX3_canGo_24 (by decide) ?_
      exact W.zret (v := 1) hx hb hr rfl (fun t ht hW => ⟨1, rfl, Option.some.inj hf, ht⟩) t_nil dX3_canGo_28
theorem iX3_comeBack_X3 : ∀ w ∈ wsX30, w ∈ wsX3_comeBack := fun _ h => List.mem_cons_of_mem _ (List.mem_append_right _ h)
set_option maxHeartbeats 4000000 in
set_option maxRecDepth 100000 in
theorem kX3_comeBack (l : Launch) (D : va_G) (cy : Nat → ClassId) (hT : Nat) (aT : Nat → Nat) (hG : Nat) (aG : Nat → Nat) (sz : Nat) (T : dk_O) (G : dk_O) (v1 : Int32) (v2 : Int32) (v3 : Int32) (oT_I : (Nat → Int32)) (oT_1 : (Nat → Int32)) (oT_2 : (Nat → Int32)) (hf : fX3_comeBack T G v1 v2 v3 = some (oT_I, oT_1, oT_2)) : dk_MuV l yX3_comeBack wsX3_comeBack ({ frames := 0, cells := 0, slots := 0, locals := 0 }) D cy [.ref hT, .int v1, .int v2, .int v3] (wSt cy hT aT hG T ++ wNt cy hG aG G) (wSt cy hT aT hG (oT_I, dk_upA (dk_upA T.2 1 oT_1) 2 oT_2) ++ wNt cy hG aG G) sz := by
  refine Met.ofW (cc := cX3_comeBack) (maxL := 4) (ret := none) (by decide) rfl ?_
  intro p e s m args below meth c s₁ B hml hv
  obtain ⟨rfl, hsz, hP, hK, hD0⟩ := hv
  have hx := B.exec
  have hb := B.bytes
  have hr := B.returns
  have hts := atoms_spec (ws := wsX3_comeBack) B.pre
  have hown : s.vm.findClass RX3 = some m.cls := findClass_of_methodNamed B.named
  have hlocks := B.notSynchronized
  subst hsz
  have hD := hD0.self (sz := s.heap.size)
  generalize hAe : va_A (wSt cy hT aT hG T ++ wNt cy hG aG G) s.heap.size = A at hD ⊢
  have hA : ∀ q : Nat, s.heap.size ≤ q → A q := fun q h => by rw [← hAe]; exact Or.inr h
  have hS : va_S A s.heap s.heap [] := va_S.rf
  have hl := lv_entry ([.ref hT, .int v1, .int v2, .int v3]) (n := 4) (Nat.le_of_ble_eq_true rfl)
  rw [lg_entry_eq]
  generalize (lg_sl ([.ref hT, .int v1, .int v2, .int v3]) ++ List.replicate (4 - (lg_sl ([.ref hT, .int v1, .int v2, .int v3])).length) Slot.unset).toArray = ls at hl ⊢
  have hl : lv_has ls 4 [(0, .ref hT), (1, .int v1), (2, .int v2), (3, .int v3)] := hl
  unfold fX3_comeBack at hf
  refine lv_aload_n hx hb dX3_comeBack_0 rfl (lv_at hl 0 rfl) ?_
  refine lv_dup hx hb dX3_comeBack_1 rfl ?_
  refine va_get (D := D) (ci := 3) (v := .int (T.1 7)) (C := RX3) (T := TX3) (N := 9) hx hb hts iX3_comeBack_X3 hown hK.1 hP 0 rfl rfl 7 (by decide) (hts (.fieldLink RX3 31 "DarkPlace$Stand" "safe" "I") (List.mem_of_getElem? (i := 1) rfl)) (fun _ h9 => h9) rfl dX3_comeBack_2 ?_
  refine lv_iconst (v := 1) hx hb dX3_comeBack_5 (by decide) ?_
  refine lv_iload_n hx hb dX3_comeBack_6 rfl (lv_at hl 2 rfl) ?_
  refine lv_ishl hx hb dX3_comeBack_7 ?_
  refine lv_ior hx hb dX3_comeBack_8 ?_
  refine va_put (D := D) (ci := 3) (v := .int ((T.1 7) ||| ((1 : Int32) <<< (v2 &&& 31)))) (ty := .int) (C := RX3) (T := TX3) (N := 9) hx hb hts iX3_comeBack_X3 tyX3 tyX3_ok nmX3 hown hK.1 hP hD hS 0 rfl rfl 7 (by decide) (hts (.fieldLink RX3 31 "DarkPlace$Stand" "safe" "I") (List.mem_of_getElem? (i := 1) rfl)) (fun _ h9 => h9) rfl (by decide +kernel) rfl rfl (Nat.le_of_ble_eq_true rfl) dX3_comeBack_9 (fun H locs hP hD hS => ?_)
  have hP : va_P D vwCl (wSt cy hT aT hG (upd T.1 7 ((T.1 7) ||| ((1 : Int32) <<< (v2 &&& 31))), T.2) ++ wNt cy hG aG G) H := hP
  have hD : va_D A (wSt cy hT aT hG (upd T.1 7 ((T.1 7) ||| ((1 : Int32) <<< (v2 &&& 31))), T.2) ++ wNt cy hG aG G) := hD
  refine lv_aload_n hx hb dX3_comeBack_12 rfl (lv_at hl 0 rfl) ?_
  refine lv_dup hx hb dX3_comeBack_13 rfl ?_
  refine va_get (D := D) (ci := 3) (v := .int (T.1 8)) (C := RX3) (T := TX3) (N := 9) hx hb hts iX3_comeBack_X3 hown hK.1 hP 0 rfl rfl 8 (by decide) (hts (.fieldLink RX3 34 "DarkPlace$Stand" "visited" "I") (List.mem_of_getElem? (i := 2) rfl)) (fun _ h9 => h9) rfl dX3_comeBack_14 ?_
  refine lv_iconst (v := 1) hx hb dX3_comeBack_17 (by decide) ?_
  refine lv_aload_n hx hb dX3_comeBack_18 rfl (lv_at hl 0 rfl) ?_
  refine va_get (D := D) (ci := 3) (v := .ref (aT 1)) (C := RX3) (T := TX3) (N := 9) hx hb hts iX3_comeBack_X3 hown hK.1 hP 0 rfl rfl 1 (by decide) (hts (.fieldLink RX3 9 "DarkPlace$Stand" "at" "[I") (List.mem_of_getElem? (i := 3) rfl)) (fun _ h9 => h9) rfl dX3_comeBack_19 ?_
  refine lv_iload_n hx hb dX3_comeBack_22 rfl (lv_at hl 1 rfl) ?_
  refine dk_iald hx hb hK.1 hP 1 0 rfl rfl hf dX3_comeBack_23 (fun d23 hf => ?_)
  refine lv_ishl hx hb dX3_comeBack_24 ?_
  refine lv_iconst (v := 1) hx hb dX3_comeBack_25 (by decide) ?_
  refine lv_iload_n hx hb dX3_comeBack_26 rfl (lv_at hl 3 rfl) ?_
  refine lv_ishl hx hb dX3_comeBack_27 ?_
  refine lv_ior hx hb dX3_comeBack_28 ?_
  refine lv_ior hx hb dX3_comeBack_29 ?_
  refine va_put (D := D) (ci := 3) (v := .int ((T.1 8) ||| (((1 : Int32) <<< (d23 &&& 31)) ||| ((1 : Int32) <<< (v3 &&& 31))))) (ty := .int) (C := RX3) (T := TX3) (N := 9) hx hb hts iX3_comeBack_X3 tyX3 tyX3_ok nmX3 hown hK.1 hP hD hS 0 rfl rfl 8 (by decide) (hts (.fieldLink RX3 34 "DarkPlace$Stand" "visited" "I") (List.mem_of_getElem? (i := 2) rfl)) (fun _ h9 => h9) rfl (by decide +kernel) rfl rfl (Nat.le_of_ble_eq_true rfl) dX3_comeBack_30 (fun H locs hP hD hS => ?_)
  have hP : va_P D vwCl (wSt cy hT aT hG (upd (upd T.1 7 ((T.1 7) ||| ((1 : Int32) <<< (v2 &&& 31)))) 8 ((T.1 8) ||| (((1 : Int32) <<< (d23 &&& 31)) ||| ((1 : Int32) <<< (v3 &&& 31)))), T.2) ++ wNt cy hG aG G) H := hP
  have hD : va_D A (wSt cy hT aT hG (upd (upd T.1 7 ((T.1 7) ||| ((1 : Int32) <<< (v2 &&& 31)))) 8 ((T.1 8) ||| (((1 : Int32) <<< (d23 &&& 31)) ||| ((1 : Int32) <<< (v3 &&& 31)))), T.2) ++ wNt cy hG aG G) := hD
  refine lv_aload_n hx hb dX3_comeBack_33 rfl (lv_at hl 0 rfl) ?_
  refine va_get (D := D) (ci := 3) (v := .ref (aT 1)) (C := RX3) (T := TX3) (N := 9) hx hb hts iX3_comeBack_X3 hown hK.1 hP 0 rfl rfl 1 (by decide) (hts (.fieldLink RX3 9 "DarkPlace$Stand" "at" "[I") (List.mem_of_getElem? (i := 3) rfl)) (fun _ h9 => h9) rfl dX3_comeBack_34 ?_
  refine lv_iload_n hx hb dX3_comeBack_37 rfl (lv_at hl 1 rfl) ?_
  refine lv_iload_n hx hb dX3_comeBack_38 rfl (lv_at hl 3 rfl) ?_
  refine dk_iast hx hb hK.1 hP hD hS 1 0 rfl rfl hf dX3_comeBack_39 (fun f39 H locs hP hD hS hf => ?_)
  have hP : va_P D vwCl (wSt cy hT aT hG (upd (upd T.1 7 ((T.1 7) ||| ((1 : Int32) <<< (v2 &&& 31)))) 8 ((T.1 8) ||| (((1 : Int32) <<< (d23 &&& 31)) ||| ((1 : Int32) <<< (v3 &&& 31)))), dk_upA T.2 1 f39) ++ wNt cy hG aG G) H := hP
  have hD : va_D A (wSt cy hT aT hG (upd (upd T.1 7 ((T.1 7) ||| ((1 : Int32) <<< (v2 &&& 31)))) 8 ((T.1 8) ||| (((1 : Int32) <<< (d23 &&& 31)) ||| ((1 : Int32) <<< (v3 &&& 31)))), dk_upA T.2 1 f39) ++ wNt cy hG aG G) := hD
  refine lv_aload_n hx hb dX3_comeBack_40 rfl (lv_at hl 0 rfl) ?_
  refine va_get (D := D) (ci := 3) (v := .ref (aT 2)) (C := RX3) (T := TX3) (N := 9) hx hb hts iX3_comeBack_X3 hown hK.1 hP 0 rfl rfl 2 (by decide) (hts (.fieldLink RX3 15 "DarkPlace$Stand" "out" "[I") (List.mem_of_getElem? (i := 4) rfl)) (fun _ h9 => h9) rfl dX3_comeBack_41 ?_
  refine lv_iload_n hx hb dX3_comeBack_44 rfl (lv_at hl 1 rfl) ?_
  refine lv_bipush (v := (-9)) hx hb dX3_comeBack_45 (by decide) ?_
  refine dk_iast hx hb hK.1 hP hD hS 2 0 rfl rfl hf dX3_comeBack_47 (fun f47 H locs hP hD hS hf => ?_)
  have hP : va_P D vwCl (wSt cy hT aT hG (upd (upd T.1 7 ((T.1 7) ||| ((1 : Int32) <<< (v2 &&& 31)))) 8 ((T.1 8) ||| (((1 : Int32) <<< (d23 &&& 31)) ||| ((1 : Int32) <<< (v3 &&& 31)))), dk_upA (dk_upA T.2 1 f39) 2 f47) ++ wNt cy hG aG G) H := hP
  have hD : va_D A (wSt cy hT aT hG (upd (upd T.1 7 ((T.1 7) ||| ((1 : Int32) <<< (v2 &&& 31)))) 8 ((T.1 8) ||| (((1 : Int32) <<< (d23 &&& 31)) ||| ((1 : Int32) <<< (v3 &&& 31)))), dk_upA (dk_upA T.2 1 f39) 2 f47) ++ wNt cy hG aG G) := hD
  have e := Option.some.inj hf
  simp only [Prod.mk.injEq] at e
  obtain ⟨e0, e1, e2⟩ := e
  subst e0
  subst e1
  subst e2
  exact W.vret hx hb hr (fun t ht hW => ⟨⟨(), rfl, trivial, by rw [ht]; exact hP, hD⟩, hS.F ht⟩) hS.2.2 dX3_comeBack_48
theorem iX3_goOut_X3 : ∀ w ∈ wsX30, w ∈ wsX3_goOut := fun _ h => List.mem_cons_of_mem _ (List.mem_append_right _ h)
set_option maxHeartbeats 4000000 in
set_option maxRecDepth 100000 in
theorem kX3_goOut (l : Launch) (D : va_G) (cy : Nat → ClassId) (hT : Nat) (aT : Nat → Nat) (hG : Nat) (aG : Nat → Nat) (sz : Nat) (T : dk_O) (G : dk_O) (v1 : Int32) (v2 : Int32) (v3 : Int32) (oT_I : (Nat → Int32)) (oT_1 : (Nat → Int32)) (oT_2 : (Nat → Int32)) (hf : fX3_goOut T G v1 v2 v3 = some (oT_I, oT_1, oT_2)) : dk_MuV l yX3_goOut wsX3_goOut ({ frames := 0, cells := 0, slots := 0, locals := 0 }) D cy [.ref hT, .int v1, .int v2, .int v3] (wSt cy hT aT hG T ++ wNt cy hG aG G) (wSt cy hT aT hG (oT_I, dk_upA (dk_upA T.2 1 oT_1) 2 oT_2) ++ wNt cy hG aG G) sz := by
  refine Met.ofW (cc := cX3_goOut) (maxL := 4) (ret := none) (by decide) rfl ?_
  intro p e s m args below meth c s₁ B hml hv
  obtain ⟨rfl, hsz, hP, hK, hD0⟩ := hv
  have hx := B.exec
  have hb := B.bytes
  have hr := B.returns
  have hts := atoms_spec (ws := wsX3_goOut) B.pre
  have hown : s.vm.findClass RX3 = some m.cls := findClass_of_methodNamed B.named
  have hlocks := B.notSynchronized
  subst hsz
  have hD := hD0.self (sz := s.heap.size)
  generalize hAe : va_A (wSt cy hT aT hG T ++ wNt cy hG aG G) s.heap.size = A at hD ⊢
  have hA : ∀ q : Nat, s.heap.size ≤ q → A q := fun q h => by rw [← hAe]; exact Or.inr h
  have hS : va_S A s.heap s.heap [] := va_S.rf
  have hl := lv_entry ([.ref hT, .int v1, .int v2, .int v3]) (n := 4) (Nat.le_of_ble_eq_true rfl)
  rw [lg_entry_eq]
  generalize (lg_sl ([.ref hT, .int v1, .int v2, .int v3]) ++ List.replicate (4 - (lg_sl ([.ref hT, .int v1, .int v2, .int v3])).length) Slot.unset).toArray = ls at hl ⊢
  have hl : lv_has ls 4 [(0, .ref hT), (1, .int v1), (2, .int v2), (3, .int v3)] := hl
  unfold fX3_goOut at hf
  refine lv_aload_n hx hb dX3_goOut_0 rfl (lv_at hl 0 rfl) ?_
  refine lv_dup hx hb dX3_goOut_1 rfl ?_
  refine va_get (D := D) (ci := 3) (v := .int (T.1 6)) (C := RX3) (T := TX3) (N := 9) hx hb hts iX3_goOut_X3 hown hK.1 hP 0 rfl rfl 6 (by decide) (hts (.fieldLink RX3 28 "DarkPlace$Stand" "unseen" "I") (List.mem_of_getElem? (i := 1) rfl)) (fun _ h9 => h9) rfl dX3_goOut_2 ?_
  refine lv_iconst (v := 1) hx hb dX3_goOut_5 (by decide) ?_
  refine lv_iload_n hx hb dX3_goOut_6 rfl (lv_at hl 2 rfl) ?_
  refine lv_ishl hx hb dX3_goOut_7 ?_
  refine lv_iconst (v := (-1)) hx hb dX3_goOut_8 (by decide) ?_
  refine lv_ixor hx hb dX3_goOut_9 ?_
  refine lv_iand hx hb dX3_goOut_10 ?_
  refine va_put (D := D) (ci := 3) (v := .int ((T.1 6) &&& (((1 : Int32) <<< (v2 &&& 31)) ^^^ (-1)))) (ty := .int) (C := RX3) (T := TX3) (N := 9) hx hb hts iX3_goOut_X3 tyX3 tyX3_ok nmX3 hown hK.1 hP hD hS 0 rfl rfl 6 (by decide) (hts (.fieldLink RX3 28 "DarkPlace$Stand" "unseen" "I") (List.mem_of_getElem? (i := 1) rfl)) (fun _ h9 => h9) rfl (by decide +kernel) rfl rfl (Nat.le_of_ble_eq_true rfl) dX3_goOut_11 (fun H locs hP hD hS => ?_)
  have hP : va_P D vwCl (wSt cy hT aT hG (upd T.1 6 ((T.1 6) &&& (((1 : Int32) <<< (v2 &&& 31)) ^^^ (-1))), T.2) ++ wNt cy hG aG G) H := hP
  have hD : va_D A (wSt cy hT aT hG (upd T.1 6 ((T.1 6) &&& (((1 : Int32) <<< (v2 &&& 31)) ^^^ (-1))), T.2) ++ wNt cy hG aG G) := hD
  refine lv_iload_n hx hb dX3_goOut_14 rfl (lv_at hl 3 rfl) ?_
  refine lv_aload_n hx hb dX3_goOut_15 rfl (lv_at hl 0 rfl) ?_
  refine va_get (D := D) (ci := 3) (v := .int (T.1 4)) (C := RX3) (T := TX3) (N := 9) hx hb hts iX3_goOut_X3 hown hK.1 hP 0 rfl rfl 4 (by decide) (hts (.fieldLink RX3 22 "DarkPlace$Stand" "hole" "I") (List.mem_of_getElem? (i := 2) rfl)) (fun _ h9 => h9) rfl dX3_goOut_16 ?_
  refine dk_cne (tgt := 33) hx hb dX3_goOut_19 (by decide) hf (fun hf => ?_) (fun hf => ?_)
  · refine lv_aload_n hx hb dX3_goOut_33 rfl (lv_at hl 0 rfl) ?_
    refine va_get (D := D) (ci := 3) (v := .ref (aT 1)) (C := RX3) (T := TX3) (N := 9) hx hb hts iX3_goOut_X3 hown hK.1 hP 0 rfl rfl 1 (by decide) (hts (.fieldLink RX3 9 "DarkPlace$Stand" "at" "[I") (List.mem_of_getElem? (i := 3) rfl)) (fun _ h9 => h9) rfl dX3_goOut_34 ?_
    refine lv_iload_n hx hb dX3_goOut_37 rfl (lv_at hl 1 rfl) ?_
    refine lv_iload_n hx hb dX3_goOut_38 rfl (lv_at hl 3 rfl) ?_
    refine dk_iast hx hb hK.1 hP hD hS 1 0 rfl rfl hf dX3_goOut_39 (fun f39 H locs hP hD hS hf => ?_)
    have hP : va_P D vwCl (wSt cy hT aT hG (upd T.1 6 ((T.1 6) &&& (((1 : Int32) <<< (v2 &&& 31)) ^^^ (-1))), dk_upA T.2 1 f39) ++ wNt cy hG aG G) H := hP
    have hD : va_D A (wSt cy hT aT hG (upd T.1 6 ((T.1 6) &&& (((1 : Int32) <<< (v2 &&& 31)) ^^^ (-1))), dk_upA T.2 1 f39) ++ wNt cy hG aG G) := hD
    refine lv_aload_n hx hb dX3_goOut_40 rfl (lv_at hl 0 rfl) ?_
    refine va_get (D := D) (ci := 3) (v := .ref (aT 2)) (C := RX3) (T := TX3) (N := 9) hx hb hts iX3_goOut_X3 hown hK.1 hP 0 rfl rfl 2 (by decide) (hts (.fieldLink RX3 15 "DarkPlace$Stand" "out" "[I") (List.mem_of_getElem? (i := 4) rfl)) (fun _ h9 => h9) rfl dX3_goOut_41 ?_
    refine lv_iload_n hx hb dX3_goOut_44 rfl (lv_at hl 1 rfl) ?_
    refine lv_iload_n hx hb dX3_goOut_45 rfl (lv_at hl 2 rfl) ?_
    refine dk_iast hx hb hK.1 hP hD hS 2 0 rfl rfl hf dX3_goOut_46 (fun f46 H locs hP hD hS hf => ?_)
    have hP : va_P D vwCl (wSt cy hT aT hG (upd T.1 6 ((T.1 6) &&& (((1 : Int32) <<< (v2 &&& 31)) ^^^ (-1))), dk_upA (dk_upA T.2 1 f39) 2 f46) ++ wNt cy hG aG G) H := hP
    have hD : va_D A (wSt cy hT aT hG (upd T.1 6 ((T.1 6) &&& (((1 : Int32) <<< (v2 &&& 31)) ^^^ (-1))), dk_upA (dk_upA T.2 1 f39) 2 f46) ++ wNt cy hG aG G) := hD
    have e := Option.some.inj hf
    simp only [Prod.mk.injEq] at e
    obtain ⟨e0, e1, e2⟩ := e
    subst e0
    subst e1
    subst e2
    exact W.vret hx hb hr (fun t ht hW => ⟨⟨(), rfl, trivial, by rw [ht]; exact hP, hD⟩, hS.F ht⟩) hS.2.2 dX3_goOut_47
  · refine lv_aload_n hx hb dX3_goOut_22 rfl (lv_at hl 0 rfl) ?_
    refine va_get (D := D) (ci := 3) (v := .ref (aT 1)) (C := RX3) (T := TX3) (N := 9) hx hb hts iX3_goOut_X3 hown hK.1 hP 0 rfl rfl 1 (by decide) (hts (.fieldLink RX3 9 "DarkPlace$Stand" "at" "[I") (List.mem_of_getElem? (i := 3) rfl)) (fun _ h9 => h9) rfl dX3_goOut_23 ?_
    refine lv_iload_n hx hb dX3_goOut_26 rfl (lv_at hl 1 rfl) ?_
    refine lv_bipush (v := (-9)) hx hb dX3_goOut_27 (by decide) ?_
    refine dk_iast hx hb hK.1 hP hD hS 1 0 rfl rfl hf dX3_goOut_29 (fun f29 H locs hP hD hS hf => ?_)
    have hP : va_P D vwCl (wSt cy hT aT hG (upd T.1 6 ((T.1 6) &&& (((1 : Int32) <<< (v2 &&& 31)) ^^^ (-1))), dk_upA T.2 1 f29) ++ wNt cy hG aG G) H := hP
    have hD : va_D A (wSt cy hT aT hG (upd T.1 6 ((T.1 6) &&& (((1 : Int32) <<< (v2 &&& 31)) ^^^ (-1))), dk_upA T.2 1 f29) ++ wNt cy hG aG G) := hD
    refine lv_goto (tgt := 47) hx hb dX3_goOut_30 (by decide) ?_
    have e := Option.some.inj hf
    simp only [Prod.mk.injEq] at e
    obtain ⟨e0, e1, e2⟩ := e
    subst e0
    subst e1
    subst e2
    exact W.vret hx hb hr (fun t ht hW => ⟨⟨(), rfl, trivial, by rw [ht]; exact hP, hD⟩, hS.F ht⟩) hS.2.2 dX3_goOut_47
theorem iX3_go_X3 : ∀ w ∈ wsX30, w ∈ wsX3_go := fun _ h => List.mem_cons_of_mem _ (List.mem_append_left _ (List.mem_append_right _ h))
set_option maxHeartbeats 4000000 in
set_option maxRecDepth 100000 in
theorem kX3_go (l : Launch) (D : va_G) (cy : Nat → ClassId) (hT : Nat) (aT : Nat → Nat) (hG : Nat) (aG : Nat → Nat) (sz : Nat) (T : dk_O) (G : dk_O) (v1 : Int32) (v2 : Int32) (oT_I : (Nat → Int32)) (oT_1 : (Nat → Int32)) (oT_2 : (Nat → Int32)) (hf : fX3_go T G v1 v2 = some (oT_I, oT_1, oT_2)) : dk_MuV l yX3_go wsX3_go ({ frames := 2, cells := 0, slots := 0, locals := 43 }) D cy [.ref hT, .int v1, .int v2] (wSt cy hT aT hG T ++ wNt cy hG aG G) (wSt cy hT aT hG (oT_I, dk_upA (dk_upA T.2 1 oT_1) 2 oT_2) ++ wNt cy hG aG G) sz := by
  refine Met.ofW (cc := cX3_go) (maxL := 4) (ret := none) (by decide) rfl ?_
  intro p e s m args below meth c s₁ B hml hv
  obtain ⟨rfl, hsz, hP, hK, hD0⟩ := hv
  have hx := B.exec
  have hb := B.bytes
  have hr := B.returns
  have hts := atoms_spec (ws := wsX3_go) B.pre
  have hown : s.vm.findClass RX3 = some m.cls := findClass_of_methodNamed B.named
  have hlocks := B.notSynchronized
  subst hsz
  have hD := hD0.self (sz := s.heap.size)
  generalize hAe : va_A (wSt cy hT aT hG T ++ wNt cy hG aG G) s.heap.size = A at hD ⊢
  have hA : ∀ q : Nat, s.heap.size ≤ q → A q := fun q h => by rw [← hAe]; exact Or.inr h
  have hS : va_S A s.heap s.heap [] := va_S.rf
  have hl := lv_entry ([.ref hT, .int v1, .int v2]) (n := 4) (Nat.le_of_ble_eq_true rfl)
  rw [lg_entry_eq]
  generalize (lg_sl ([.ref hT, .int v1, .int v2]) ++ List.replicate (4 - (lg_sl ([.ref hT, .int v1, .int v2])).length) Slot.unset).toArray = ls at hl ⊢
  have hl : lv_has ls 4 [(0, .ref hT), (1, .int v1), (2, .int v2)] := hl
  unfold fX3_go at hf
  refine lv_aload_n hx hb dX3_go_0 rfl (lv_at hl 0 rfl) ?_
  refine lv_iload_n hx hb dX3_go_1 rfl (lv_at hl 1 rfl) ?_
  obtain ⟨r2, k2, hf⟩ := dk_bind hf
  refine dk_ri (va_runV (As := [.int v1]) (rest := []) ⟨hx, hb, hml, hown, hts⟩ (kX3_lives l D cy hT aT hG aG T G v1 r2 k2) (cwV 1 hts gX3_go_X3_lives rfl rfl rfl (by decide +kernel) ⟨Nat.le_of_ble_eq_true rfl, Nat.le_of_ble_eq_true rfl⟩) (dk_preV hK (hP.sub (ws' := wSt cy hT aT hG T ++ wNt cy hG aG G) [0, 1, 2, 3, 4, 5, 6] rfl) (ci := 3) (q0 := 0) rfl rfl) rfl rfl hl.1 rfl (lv_room (Nat.le_of_ble_eq_true rfl)) dX3_go_2 ⟨Nat.zero_le _, Nat.zero_le _⟩) ?_
  refine dk_ine (tgt := 9) hx hb dX3_go_5 (by decide) hf (fun hf => ?_) (fun hf => ?_)
  · refine lv_aload_n hx hb dX3_go_9 rfl (lv_at hl 0 rfl) ?_
    refine va_get (D := D) (ci := 3) (v := .ref hG) (C := RX3) (T := TX3) (N := 9) hx hb hts iX3_go_X3 hown hK.1 hP 0 rfl rfl 0 (by decide) (hts (.fieldLink RX3 37 "DarkPlace$Stand" "net" "LDarkPlace$Net;") (List.mem_of_getElem? (i := 1) rfl)) (fun _ h9 => h9) rfl dX3_go_10 ?_
    refine lv_iload_n hx hb dX3_go_13 rfl (lv_at hl 2 rfl) ?_
    refine lv_aload_n hx hb dX3_go_14 rfl (lv_at hl 0 rfl) ?_
    refine va_get (D := D) (ci := 3) (v := .ref (aT 1)) (C := RX3) (T := TX3) (N := 9) hx hb hts iX3_go_X3 hown hK.1 hP 0 rfl rfl 1 (by decide) (hts (.fieldLink RX3 9 "DarkPlace$Stand" "at" "[I") (List.mem_of_getElem? (i := 2) rfl)) (fun _ h9 => h9) rfl dX3_go_15 ?_
    refine lv_iload_n hx hb dX3_go_18 rfl (lv_at hl 1 rfl) ?_
    refine dk_iald hx hb hK.1 hP 1 0 rfl rfl hf dX3_go_19 (fun d19 hf => ?_)
    obtain ⟨r20, k20, hf⟩ := dk_bind hf
    refine dk_ri (va_runV (As := [.int v2, .int d19]) (rest := []) ⟨hx, hb, hml, hown, hts⟩ (kX1_otherEnd l D cy hG aG G v2 d19 r20 k20) (cwV 2 hts gX3_go_X1_otherEnd rfl rfl rfl (by decide +kernel) ⟨Nat.le_of_ble_eq_true rfl, Nat.le_of_ble_eq_true rfl⟩) (dk_preV hK (hP.sub (ws' := wNt cy hG aG G) [3, 4, 5, 6] rfl) (ci := 1) (q0 := 0) rfl rfl) rfl rfl hl.1 rfl (lv_room (Nat.le_of_ble_eq_true rfl)) dX3_go_20 ⟨Nat.zero_le _, Nat.zero_le _⟩) ?_
    refine lv_istore_n (lv' := [(3, .int r20), (0, .ref hT), (1, .int v1), (2, .int v2)]) hx hb dX3_go_23 rfl hl (by decide) rfl (fun ls hl => ?_)
    refine lv_aload_n hx hb dX3_go_24 rfl (lv_at hl 1 rfl) ?_
    refine lv_dup hx hb dX3_go_25 rfl ?_
    refine va_get (D := D) (ci := 3) (v := .int (T.1 5)) (C := RX3) (T := TX3) (N := 9) hx hb hts iX3_go_X3 hown hK.1 hP 0 rfl rfl 5 (by decide) (hts (.fieldLink RX3 25 "DarkPlace$Stand" "moves" "I") (List.mem_of_getElem? (i := 3) rfl)) (fun _ h9 => h9) rfl dX3_go_26 ?_
    refine lv_iconst (v := 1) hx hb dX3_go_29 (by decide) ?_
    refine lv_iadd hx hb dX3_go_30 ?_
    refine va_put (D := D) (ci := 3) (v := .int ((T.1 5) + 1)) (ty := .int) (C := RX3) (T := TX3) (N := 9) hx hb hts iX3_go_X3 tyX3 tyX3_ok nmX3 hown hK.1 hP hD hS 0 rfl rfl 5 (by decide) (hts (.fieldLink RX3 25 "DarkPlace$Stand" "moves" "I") (List.mem_of_getElem? (i := 3) rfl)) (fun _ h9 => h9) rfl (by decide +kernel) rfl rfl (Nat.le_of_ble_eq_true rfl) dX3_go_31 (fun H locs hP hD hS => ?_)
    have hP : va_P D vwCl (wSt cy hT aT hG (upd T.1 5 ((T.1 5) + 1), T.2) ++ wNt cy hG aG G) H := hP
    have hD : va_D A (wSt cy hT aT hG (upd T.1 5 ((T.1 5) + 1), T.2) ++ wNt cy hG aG G) := hD
    refine lv_aload_n hx hb dX3_go_34 rfl (lv_at hl 1 rfl) ?_
    refine va_get (D := D) (ci := 3) (v := .ref (aT 2)) (C := RX3) (T := TX3) (N := 9) hx hb hts iX3_go_X3 hown hK.1 hP 0 rfl rfl 2 (by decide) (hts (.fieldLink RX3 15 "DarkPlace$Stand" "out" "[I") (List.mem_of_getElem? (i := 4) rfl)) (fun _ h9 => h9) rfl dX3_go_35 ?_
    refine lv_iload_n hx hb dX3_go_38 rfl (lv_at hl 2 rfl) ?_
    refine dk_iald hx hb hK.1 hP 2 0 rfl rfl hf dX3_go_39 (fun d39 hf => ?_)
    refine lv_bipush (v := (-9)) hx hb dX3_go_40 (by decide) ?_
    refine dk_ceq (tgt := 55) hx hb dX3_go_42 (by decide) hf (fun hf => ?_) (fun hf => ?_)
    · refine lv_aload_n hx hb dX3_go_55 rfl (lv_at hl 1 rfl) ?_
      refine va_get (D := D) (ci := 3) (v := .int (T.1 7)) (C := RX3) (T := TX3) (N := 9) hx hb hts iX3_go_X3 hown hK.1 hP 0 rfl rfl 7 (by decide) (hts (.fieldLink RX3 31 "DarkPlace$Stand" "safe" "I") (List.mem_of_getElem? (i := 5) rfl)) (fun _ h9 => h9) rfl dX3_go_56 ?_
      refine lv_iload_n hx hb dX3_go_59 rfl (lv_at hl 3 rfl) ?_
      obtain ⟨r60, k60, hf⟩ := dk_bind hf
      refine dk_ri (va_runSN (As := [.int (T.1 7), .int v2]) (rest := []) ⟨hx, hb, hml, hown, hts⟩ (kX5_holds l D cy (T.1 7) v2 r60 k60) ⟨va_cnB 2 hts gX3_go_X5_holds_n85 rfl rfl rfl (hK.2 (.methodLinkNest "DarkPlace$Stand" 85 ⟨"DarkPlace", "holds", "(II)Z"⟩ "DarkPlace") (List.mem_of_getElem? (i := 21) rfl)) (hts (.initialized RX5) (List.mem_of_getElem? (i := 28) rfl)) (by decide +kernel) ⟨Nat.le_of_ble_eq_true rfl, Nat.le_of_ble_eq_true rfl⟩, (hts (.static yX5_holds) (List.mem_of_getElem? (i := 35) rfl)), trivial⟩ (dk_preS hK (hP.sub (ws' := []) [] rfl)) rfl rfl hl.1 rfl (lv_room (Nat.le_of_ble_eq_true rfl)) dX3_go_60 ⟨Nat.zero_le _, Nat.zero_le _⟩) ?_
      refine dk_ieq (tgt := 76) hx hb dX3_go_63 (by decide) hf (fun hf => ?_) (fun hf => ?_)
      · refine lv_aload_n hx hb dX3_go_76 rfl (lv_at hl 1 rfl) ?_
        refine lv_iload_n hx hb dX3_go_77 rfl (lv_at hl 2 rfl) ?_
        refine lv_iload_n hx hb dX3_go_78 rfl (lv_at hl 3 rfl) ?_
        refine lv_iload_n hx hb dX3_go_79 rfl (lv_at hl 0 rfl) ?_
        obtain ⟨⟨i80_0, g80_1, g80_2⟩, k80, hf⟩ := dk_bind hf
        dsimp only at hf
        have hPc := hP.sub (ws' := wSt cy hT aT hG (upd T.1 5 ((T.1 5) + 1), T.2) ++ wNt cy hG aG G) [0, 1, 2, 3, 4, 5, 6] rfl
        have hDc := hD.sub (ws' := wSt cy hT aT hG (upd T.1 5 ((T.1 5) + 1), T.2) ++ wNt cy hG aG G) [0, 1, 2, 3, 4, 5, 6] (by decide) rfl
        have hFc := va_free (wc := wSt cy hT aT hG (upd T.1 5 ((T.1 5) + 1), T.2) ++ wNt cy hG aG G) hD hS hA [0, 1, 2, 3, 4, 5, 6] rfl
        refine va_callv (va_runV (As := [.int v1, .int v2, .int r20]) (rest := []) ⟨hx, hb, hml, hown, hts⟩ (kX3_goOut l D cy hT aT hG aG H.size (upd T.1 5 ((T.1 5) + 1), T.2) G v1 v2 r20 i80_0 g80_1 g80_2 k80) (cwV 3 hts gX3_go_X3_goOut rfl rfl rfl (by decide +kernel) ⟨Nat.le_of_ble_eq_true rfl, Nat.le_of_ble_eq_true rfl⟩) (dk_premV hK hPc hDc (ci := 3) (q0 := 0) rfl rfl) rfl rfl hl.1 rfl (lv_room (Nat.le_of_ble_eq_true rfl)) dX3_go_80 ⟨Nat.zero_le _, Nat.zero_le _⟩) hS (fun q _ h => hFc q h) hFc (fun u t H1 locs ht hvm hw hB hz1 hk1 hS => ?_)
        obtain ⟨hP1, hD1⟩ := hB
        rw [ht] at hP1
        obtain ⟨hP, hD⟩ := va_join (wr := ([] : List Nat).filterMap (fun i => (wSt cy hT aT hG (upd T.1 5 ((T.1 5) + 1), T.2) ++ wNt cy hG aG G)[i]?)) (w1 := wSt cy hT aT hG (i80_0, dk_upA (dk_upA T.2 1 g80_1) 2 g80_2) ++ wNt cy hG aG G) hP hD [0, 1, 2, 3, 4, 5, 6] [] rfl rfl (by decide) (by decide) hk1 hFc hP1 hD1
        generalize H1 = H at hP hS ⊢
        have hP : va_P D vwCl (wSt cy hT aT hG (i80_0, dk_upA (dk_upA T.2 1 g80_1) 2 g80_2) ++ wNt cy hG aG G) H := hP.sub [0, 1, 2, 3, 4, 5, 6] rfl
        have hD : va_D A (wSt cy hT aT hG (i80_0, dk_upA (dk_upA T.2 1 g80_1) 2 g80_2) ++ wNt cy hG aG G) := hD.sub [0, 1, 2, 3, 4, 5, 6] (by decide) rfl
        have e := Option.some.inj hf
        simp only [Prod.mk.injEq] at e
        obtain ⟨e0, e1, e2⟩ := e
        subst e0
        subst e1
        subst e2
        exact W.vret hx hb hr (fun t ht hW => ⟨⟨(), rfl, trivial, by rw [ht]; exact hP, hD⟩, hS.F ht⟩) hS.2.2 dX3_go_83
      · refine lv_aload_n hx hb dX3_go_66 rfl (lv_at hl 1 rfl) ?_
        refine va_get (D := D) (ci := 3) (v := .ref (aT 1)) (C := RX3) (T := TX3) (N := 9) hx hb hts iX3_go_X3 hown hK.1 hP 0 rfl rfl 1 (by decide) (hts (.fieldLink RX3 9 "DarkPlace$Stand" "at" "[I") (List.mem_of_getElem? (i := 2) rfl)) (fun _ h9 => h9) rfl dX3_go_67 ?_
        refine lv_iload_n hx hb dX3_go_70 rfl (lv_at hl 2 rfl) ?_
        refine lv_iload_n hx hb dX3_go_71 rfl (lv_at hl 0 rfl) ?_
        refine dk_iast hx hb hK.1 hP hD hS 1 0 rfl rfl hf dX3_go_72 (fun f72 H locs hP hD hS hf => ?_)
        have hP : va_P D vwCl (wSt cy hT aT hG (upd T.1 5 ((T.1 5) + 1), dk_upA T.2 1 f72) ++ wNt cy hG aG G) H := hP
        have hD : va_D A (wSt cy hT aT hG (upd T.1 5 ((T.1 5) + 1), dk_upA T.2 1 f72) ++ wNt cy hG aG G) := hD
        refine lv_goto (tgt := 83) hx hb dX3_go_73 (by decide) ?_
        have e := Option.some.inj hf
        simp only [Prod.mk.injEq] at e
        obtain ⟨e0, e1, e2⟩ := e
        subst e0
        subst e1
        subst e2
        exact W.vret hx hb hr (fun t ht hW => ⟨⟨(), rfl, trivial, by rw [ht]; exact hP, hD⟩, hS.F ht⟩) hS.2.2 dX3_go_83
    · refine lv_aload_n hx hb dX3_go_45 rfl (lv_at hl 1 rfl) ?_
      refine lv_iload_n hx hb dX3_go_46 rfl (lv_at hl 2 rfl) ?_
      refine lv_iload_n hx hb dX3_go_47 rfl (lv_at hl 3 rfl) ?_
      refine lv_iload_n hx hb dX3_go_48 rfl (lv_at hl 0 rfl) ?_
      obtain ⟨⟨i49_0, g49_1, g49_2⟩, k49, hf⟩ := dk_bind hf
      dsimp only at hf
      have hPc := hP.sub (ws' := wSt cy hT aT hG (upd T.1 5 ((T.1 5) + 1), T.2) ++ wNt cy hG aG G) [0, 1, 2, 3, 4, 5, 6] rfl
      have hDc := hD.sub (ws' := wSt cy hT aT hG (upd T.1 5 ((T.1 5) + 1), T.2) ++ wNt cy hG aG G) [0, 1, 2, 3, 4, 5, 6] (by decide) rfl
      have hFc := va_free (wc := wSt cy hT aT hG (upd T.1 5 ((T.1 5) + 1), T.2) ++ wNt cy hG aG G) hD hS hA [0, 1, 2, 3, 4, 5, 6] rfl
      refine va_callv (va_runV (As := [.int v1, .int v2, .int r20]) (rest := []) ⟨hx, hb, hml, hown, hts⟩ (kX3_comeBack l D cy hT aT hG aG H.size (upd T.1 5 ((T.1 5) + 1), T.2) G v1 v2 r20 i49_0 g49_1 g49_2 k49) (cwV 3 hts gX3_go_X3_comeBack rfl rfl rfl (by decide +kernel) ⟨Nat.le_of_ble_eq_true rfl, Nat.le_of_ble_eq_true rfl⟩) (dk_premV hK hPc hDc (ci := 3) (q0 := 0) rfl rfl) rfl rfl hl.1 rfl (lv_room (Nat.le_of_ble_eq_true rfl)) dX3_go_49 ⟨Nat.zero_le _, Nat.zero_le _⟩) hS (fun q _ h => hFc q h) hFc (fun u t H1 locs ht hvm hw hB hz1 hk1 hS => ?_)
      obtain ⟨hP1, hD1⟩ := hB
      rw [ht] at hP1
      obtain ⟨hP, hD⟩ := va_join (wr := ([] : List Nat).filterMap (fun i => (wSt cy hT aT hG (upd T.1 5 ((T.1 5) + 1), T.2) ++ wNt cy hG aG G)[i]?)) (w1 := wSt cy hT aT hG (i49_0, dk_upA (dk_upA T.2 1 g49_1) 2 g49_2) ++ wNt cy hG aG G) hP hD [0, 1, 2, 3, 4, 5, 6] [] rfl rfl (by decide) (by decide) hk1 hFc hP1 hD1
      generalize H1 = H at hP hS ⊢
      have hP : va_P D vwCl (wSt cy hT aT hG (i49_0, dk_upA (dk_upA T.2 1 g49_1) 2 g49_2) ++ wNt cy hG aG G) H := hP.sub [0, 1, 2, 3, 4, 5, 6] rfl
      have hD : va_D A (wSt cy hT aT hG (i49_0, dk_upA (dk_upA T.2 1 g49_1) 2 g49_2) ++ wNt cy hG aG G) := hD.sub [0, 1, 2, 3, 4, 5, 6] (by decide) rfl
      refine lv_goto (tgt := 83) hx hb dX3_go_52 (by decide) ?_
      have e := Option.some.inj hf
      simp only [Prod.mk.injEq] at e
      obtain ⟨e0, e1, e2⟩ := e
      subst e0
      subst e1
      subst e2
      exact W.vret hx hb hr (fun t ht hW => ⟨⟨(), rfl, trivial, by rw [ht]; exact hP, hD⟩, hS.F ht⟩) hS.2.2 dX3_go_83
  · have e := Option.some.inj hf
    simp only [Prod.mk.injEq] at e
    obtain ⟨e0, e1, e2⟩ := e
    subst e0
    subst e1
    subst e2
    exact W.vret hx hb hr (fun t ht hW => ⟨⟨(), rfl, trivial, by rw [ht]; exact hP, hD⟩, hS.F ht⟩) hS.2.2 dX3_go_8
set_option maxHeartbeats 4000000 in
set_option maxRecDepth 100000 in
theorem kX3_goIfPossible (l : Launch) (D : va_G) (cy : Nat → ClassId) (hT : Nat) (aT : Nat → Nat) (hG : Nat) (aG : Nat → Nat) (sz : Nat) (T : dk_O) (G : dk_O) (v1 : Int32) (v2 : Int32) (r : Int32) (oT_I : (Nat → Int32)) (oT_1 : (Nat → Int32)) (oT_2 : (Nat → Int32)) (hf : fX3_goIfPossible T G v1 v2 = some (r, oT_I, oT_1, oT_2)) : dk_MuI l yX3_goIfPossible wsX3_goIfPossible ({ frames := 4, cells := 0, slots := 0, locals := 86 }) D cy [.ref hT, .int v1, .int v2] (wSt cy hT aT hG T ++ wNt cy hG aG G) (wSt cy hT aT hG (oT_I, dk_upA (dk_upA T.2 1 oT_1) 2 oT_2) ++ wNt cy hG aG G) sz r := by
  refine Met.ofW (cc := cX3_goIfPossible) (maxL := 3) (ret := (some .boolean)) (by decide) rfl ?_
  intro p e s m args below meth c s₁ B hml hv
  obtain ⟨rfl, hsz, hP, hK, hD0⟩ := hv
  have hx := B.exec
  have hb := B.bytes
  have hr := B.returns
  have hts := atoms_spec (ws := wsX3_goIfPossible) B.pre
  have hown : s.vm.findClass RX3 = some m.cls := findClass_of_methodNamed B.named
  have hlocks := B.notSynchronized
  subst hsz
  have hD := hD0.self (sz := s.heap.size)
  generalize hAe : va_A (wSt cy hT aT hG T ++ wNt cy hG aG G) s.heap.size = A at hD ⊢
  have hA : ∀ q : Nat, s.heap.size ≤ q → A q := fun q h => by rw [← hAe]; exact Or.inr h
  have hS : va_S A s.heap s.heap [] := va_S.rf
  have hl := lv_entry ([.ref hT, .int v1, .int v2]) (n := 3) (Nat.le_of_ble_eq_true rfl)
  rw [lg_entry_eq]
  generalize (lg_sl ([.ref hT, .int v1, .int v2]) ++ List.replicate (3 - (lg_sl ([.ref hT, .int v1, .int v2])).length) Slot.unset).toArray = ls at hl ⊢
  have hl : lv_has ls 3 [(0, .ref hT), (1, .int v1), (2, .int v2)] := hl
  unfold fX3_goIfPossible at hf
  refine lv_aload_n hx hb dX3_goIfPossible_0 rfl (lv_at hl 0 rfl) ?_
  refine lv_iload_n hx hb dX3_goIfPossible_1 rfl (lv_at hl 1 rfl) ?_
  refine lv_iload_n hx hb dX3_goIfPossible_2 rfl (lv_at hl 2 rfl) ?_
  obtain ⟨r3, k3, hf⟩ := dk_bind hf
  refine dk_ri (va_runV (As := [.int v1, .int v2]) (rest := []) ⟨hx, hb, hml, hown, hts⟩ (kX3_canGo l D cy hT aT hG aG T G v1 v2 r3 k3) (cwV 2 hts gX3_goIfPossible_X3_canGo rfl rfl rfl (by decide +kernel) ⟨Nat.le_of_ble_eq_true rfl, Nat.le_of_ble_eq_true rfl⟩) (dk_preV hK (hP.sub (ws' := wSt cy hT aT hG T ++ wNt cy hG aG G) [0, 1, 2, 3, 4, 5, 6] rfl) (ci := 3) (q0 := 0) rfl rfl) rfl rfl hl.1 rfl (lv_room (Nat.le_of_ble_eq_true rfl)) dX3_goIfPossible_3 ⟨Nat.zero_le _, Nat.zero_le _⟩) ?_
  refine dk_ine (tgt := 11) hx hb dX3_goIfPossible_6 (by decide) hf (fun hf => ?_) (fun hf => ?_)
  · refine lv_aload_n hx hb dX3_goIfPossible_11 rfl (lv_at hl 0 rfl) ?_
    refine lv_iload_n hx hb dX3_goIfPossible_12 rfl (lv_at hl 1 rfl) ?_
    refine lv_iload_n hx hb dX3_goIfPossible_13 rfl (lv_at hl 2 rfl) ?_
    obtain ⟨⟨i14_0, g14_1, g14_2⟩, k14, hf⟩ := dk_bind hf
    dsimp only at hf
    have hPc := hP.sub (ws' := wSt cy hT aT hG T ++ wNt cy hG aG G) [0, 1, 2, 3, 4, 5, 6] rfl
    have hDc := hD.sub (ws' := wSt cy hT aT hG T ++ wNt cy hG aG G) [0, 1, 2, 3, 4, 5, 6] (by decide) rfl
    have hFc := va_free (wc := wSt cy hT aT hG T ++ wNt cy hG aG G) hD hS hA [0, 1, 2, 3, 4, 5, 6] rfl
    refine va_callv (va_runV (As := [.int v1, .int v2]) (rest := []) ⟨hx, hb, hml, hown, hts⟩ (kX3_go l D cy hT aT hG aG s.heap.size T G v1 v2 i14_0 g14_1 g14_2 k14) (cwV 2 hts gX3_goIfPossible_X3_go rfl rfl rfl (by decide +kernel) ⟨Nat.le_of_ble_eq_true rfl, Nat.le_of_ble_eq_true rfl⟩) (dk_premV hK hPc hDc (ci := 3) (q0 := 0) rfl rfl) rfl rfl hl.1 rfl (lv_room (Nat.le_of_ble_eq_true rfl)) dX3_goIfPossible_14 ⟨Nat.zero_le _, Nat.zero_le _⟩) hS (fun q _ h => hFc q h) hFc (fun u t H1 locs ht hvm hw hB hz1 hk1 hS => ?_)
    obtain ⟨hP1, hD1⟩ := hB
    rw [ht] at hP1
    obtain ⟨hP, hD⟩ := va_join (wr := ([] : List Nat).filterMap (fun i => (wSt cy hT aT hG T ++ wNt cy hG aG G)[i]?)) (w1 := wSt cy hT aT hG (i14_0, dk_upA (dk_upA T.2 1 g14_1) 2 g14_2) ++ wNt cy hG aG G) hP hD [0, 1, 2, 3, 4, 5, 6] [] rfl rfl (by decide) (by decide) hk1 hFc hP1 hD1
    generalize H1 = H at hP hS ⊢
    have hP : va_P D vwCl (wSt cy hT aT hG (i14_0, dk_upA (dk_upA T.2 1 g14_1) 2 g14_2) ++ wNt cy hG aG G) H := hP.sub [0, 1, 2, 3, 4, 5, 6] rfl
    have hD : va_D A (wSt cy hT aT hG (i14_0, dk_upA (dk_upA T.2 1 g14_1) 2 g14_2) ++ wNt cy hG aG G) := hD.sub [0, 1, 2, 3, 4, 5, 6] (by decide) rfl
    refine lv_iconst (v := 1) hx hb dX3_goIfPossible_17 (by decide) ?_
    have e := Option.some.inj hf
    simp only [Prod.mk.injEq] at e
    obtain ⟨e0, e1, e2, e3⟩ := e
    subst e1
    subst e2
    subst e3
    exact W.zret (v := 1) hx hb hr rfl (fun t ht hW => ⟨⟨1, (), rfl, e0, by rw [ht]; exact hP, hD⟩, hS.F ht⟩) hS.2.2 dX3_goIfPossible_18
  · refine lv_iconst (v := 0) hx hb dX3_goIfPossible_9 (by decide) ?_
    have e := Option.some.inj hf
    simp only [Prod.mk.injEq] at e
    obtain ⟨e0, e1, e2, e3⟩ := e
    subst e1
    subst e2
    subst e3
    exact W.zret (v := 0) hx hb hr rfl (fun t ht hW => ⟨⟨0, (), rfl, e0, by rw [ht]; exact hP, hD⟩, hS.F ht⟩) hS.2.2 dX3_goIfPossible_10
theorem iX3_nearestUnseen_X3 : ∀ w ∈ wsX30, w ∈ wsX3_nearestUnseen := fun _ h => List.mem_cons_of_mem _ (List.mem_append_left _ (List.mem_append_right _ h))
set_option maxHeartbeats 4000000 in
set_option maxRecDepth 100000 in
theorem kX3_nearestUnseen (l : Launch) (D : va_G) (cy : Nat → ClassId) (hT : Nat) (aT : Nat → Nat) (hG : Nat) (aG : Nat → Nat) (T : dk_O) (G : dk_O) (v1 : Int32) (r : Int32) (hf : fX3_nearestUnseen T G v1 = some r) : dk_RdI l yX3_nearestUnseen wsX3_nearestUnseen ({ frames := 1, cells := 0, slots := 0, locals := 24 }) D cy [.ref hT, .int v1] (wSt cy hT aT hG T ++ wNt cy hG aG G) r := by
  refine Met.ofW (cc := cX3_nearestUnseen) (maxL := 6) (ret := (some .int)) (by decide) rfl ?_
  intro p e s m args below meth c s₁ B hml hv
  obtain ⟨rfl, hP, hK⟩ := hv
  have hx := B.exec
  have hb := B.bytes
  have hr := B.returns
  have hts := atoms_spec (ws := wsX3_nearestUnseen) B.pre
  have hown : s.vm.findClass RX3 = some m.cls := findClass_of_methodNamed B.named
  have hlocks := B.notSynchronized
  have hl := lv_entry ([.ref hT, .int v1]) (n := 6) (Nat.le_of_ble_eq_true rfl)
  rw [lg_entry_eq]
  generalize (lg_sl ([.ref hT, .int v1]) ++ List.replicate (6 - (lg_sl ([.ref hT, .int v1])).length) Slot.unset).toArray = ls at hl ⊢
  have hl : lv_has ls 6 [(0, .ref hT), (1, .int v1)] := hl
  have L19 : ∀ (fu19 : Nat) (x2 : Int32) (x3 : Int32) (x4 : Int32) (ls : Array Slot), lv_has ls 6 [(0, .ref hT), (2, .int x2), (3, .int x3), (4, .int x4)] → fX3_nearestUnseen_L19 T G fu19 x2 x3 x4 = some r → W p l e (headSpec wsX3_nearestUnseen ({ frames := 1, cells := 0, slots := 0, locals := 24 })).room s m ([.ref hT, .int v1]).toArray below meth c s.heap [] 0 0 (MQ below (vp_Si (fun x => x = r)) ([.ref hT, .int v1]).toArray s 0 0 (fun _ => False)) (F0 m 19 ls []) := by
    intro fu19
    induction fu19 with
    | zero =>
      intro x2 x3 x4 ls hl hf
      rw [fX3_nearestUnseen_L19] at hf
      cases hf
    | succ fu19 ih19 =>
      intro x2 x3 x4 ls hl hf
      rw [fX3_nearestUnseen_L19] at hf
      refine lv_iload hx hb dX3_nearestUnseen_19 (lv_at hl 3 rfl) ?_
      refine lv_bipush (v := 8) hx hb dX3_nearestUnseen_21 (by decide) ?_
      refine dk_cge (tgt := 73) hx hb dX3_nearestUnseen_23 (by decide) hf (fun hf => ?_) (fun hf => ?_)
      · refine lv_bipush (v := (-9)) hx hb dX3_nearestUnseen_73 (by decide) ?_
        exact W.iret (v := (-9)) hx hb hr (fun t ht hW => ⟨(-9), rfl, Option.some.inj hf, ht⟩) t_nil dX3_nearestUnseen_75
      · refine lv_aload_n hx hb dX3_nearestUnseen_26 rfl (lv_at hl 0 rfl) ?_
        refine va_get (D := D) (ci := 3) (v := .ref hG) (C := RX3) (T := TX3) (N := 9) hx hb hts iX3_nearestUnseen_X3 hown hK.1 hP 0 rfl rfl 0 (by decide) (hts (.fieldLink RX3 37 "DarkPlace$Stand" "net" "LDarkPlace$Net;") (List.mem_of_getElem? (i := 1) rfl)) (fun _ h9 => h9) rfl dX3_nearestUnseen_27 ?_
        refine lv_iload_n hx hb dX3_nearestUnseen_30 rfl (lv_at hl 2 rfl) ?_
        refine lv_aload_n hx hb dX3_nearestUnseen_31 rfl (lv_at hl 0 rfl) ?_
        refine va_get (D := D) (ci := 3) (v := .int (T.1 7)) (C := RX3) (T := TX3) (N := 9) hx hb hts iX3_nearestUnseen_X3 hown hK.1 hP 0 rfl rfl 7 (by decide) (hts (.fieldLink RX3 31 "DarkPlace$Stand" "safe" "I") (List.mem_of_getElem? (i := 3) rfl)) (fun _ h9 => h9) rfl dX3_nearestUnseen_32 ?_
        obtain ⟨r35, k35, hf⟩ := dk_bind hf
        refine dk_ri (va_runV (As := [.int x3, .int (T.1 7)]) (rest := []) ⟨hx, hb, hml, hown, hts⟩ (kX1_widened l D cy hG aG G x3 (T.1 7) r35 k35) (cwV 2 hts gX3_nearestUnseen_X1_widened rfl rfl rfl (by decide +kernel) ⟨Nat.le_of_ble_eq_true rfl, Nat.le_of_ble_eq_true rfl⟩) (dk_preV hK (hP.sub (ws' := wNt cy hG aG G) [3, 4, 5, 6] rfl) (ci := 1) (q0 := 0) rfl rfl) rfl rfl hl.1 rfl (lv_room (Nat.le_of_ble_eq_true rfl)) dX3_nearestUnseen_35 ⟨Nat.zero_le _, Nat.zero_le _⟩) ?_
        refine lv_istore (lv' := [(5, .int r35), (0, .ref hT), (2, .int x2), (3, .int x3), (4, .int x4)]) hx hb dX3_nearestUnseen_38 hl (by decide) rfl (fun ls hl => ?_)
        refine lv_iload hx hb dX3_nearestUnseen_40 (lv_at hl 0 rfl) ?_
        refine lv_iload_n hx hb dX3_nearestUnseen_42 rfl (lv_at hl 3 rfl) ?_
        refine dk_cne (tgt := 49) hx hb dX3_nearestUnseen_43 (by decide) hf (fun hf => ?_) (fun hf => ?_)
        · refine lv_iload hx hb dX3_nearestUnseen_49 (lv_at hl 0 rfl) ?_
          refine lv_iload_n hx hb dX3_nearestUnseen_51 rfl (lv_at hl 2 rfl) ?_
          refine lv_iand hx hb dX3_nearestUnseen_52 ?_
          refine dk_ieq (tgt := 64) hx hb dX3_nearestUnseen_53 (by decide) hf (fun hf => ?_) (fun hf => ?_)
          · refine lv_iload hx hb dX3_nearestUnseen_64 (lv_at hl 0 rfl) ?_
            refine lv_istore_n (lv' := [(3, .int r35), (5, .int r35), (0, .ref hT), (2, .int x2), (4, .int x4)]) hx hb dX3_nearestUnseen_66 rfl hl (by decide) rfl (fun ls hl => ?_)
            refine lv_iinc (v := x4 + 1) (lv' := [(4, .int (x4 + 1)), (3, .int r35), (5, .int r35), (0, .ref hT), (2, .int x2)]) hx hb dX3_nearestUnseen_67 hl (k := 4) rfl rfl (by decide) rfl (fun ls hl => ?_)
            refine lv_goto (tgt := 19) hx hb dX3_nearestUnseen_70 (by decide) ?_
            exact ih19 x2 r35 (x4 + 1) _ (lv_sub hl [3, 4, 1, 0] rfl) hf
          · refine lv_iload hx hb dX3_nearestUnseen_56 (lv_at hl 0 rfl) ?_
            refine lv_iload_n hx hb dX3_nearestUnseen_58 rfl (lv_at hl 2 rfl) ?_
            refine lv_iand hx hb dX3_nearestUnseen_59 ?_
            obtain ⟨r60, k60, hf⟩ := dk_bind hf
            refine dk_ri (va_runSN (As := [.int (r35 &&& x2)]) (rest := []) ⟨hx, hb, hml, hown, hts⟩ (kX5_least l D cy (r35 &&& x2) r60 k60) ⟨va_cnB 1 hts gX3_nearestUnseen_X5_least_n102 rfl rfl rfl (hK.2 (.methodLinkNest "DarkPlace$Stand" 102 ⟨"DarkPlace", "least", "(I)I"⟩ "DarkPlace") (List.mem_of_getElem? (i := 22) rfl)) (hts (.initialized RX5) (List.mem_of_getElem? (i := 16) rfl)) (by decide +kernel) ⟨Nat.le_of_ble_eq_true rfl, Nat.le_of_ble_eq_true rfl⟩, (hts (.static yX5_least) (List.mem_of_getElem? (i := 15) rfl)), trivial⟩ (dk_preS hK (hP.sub (ws' := []) [] rfl)) rfl rfl hl.1 rfl (lv_room (Nat.le_of_ble_eq_true rfl)) dX3_nearestUnseen_60 ⟨Nat.zero_le _, Nat.zero_le _⟩) ?_
            exact W.iret (v := r60) hx hb hr (fun t ht hW => ⟨r60, rfl, Option.some.inj hf, ht⟩) t_nil dX3_nearestUnseen_63
        · refine lv_bipush (v := (-9)) hx hb dX3_nearestUnseen_46 (by decide) ?_
          exact W.iret (v := (-9)) hx hb hr (fun t ht hW => ⟨(-9), rfl, Option.some.inj hf, ht⟩) t_nil dX3_nearestUnseen_48
  unfold fX3_nearestUnseen at hf
  refine lv_aload_n hx hb dX3_nearestUnseen_0 rfl (lv_at hl 0 rfl) ?_
  refine va_get (D := D) (ci := 3) (v := .ref hG) (C := RX3) (T := TX3) (N := 9) hx hb hts iX3_nearestUnseen_X3 hown hK.1 hP 0 rfl rfl 0 (by decide) (hts (.fieldLink RX3 37 "DarkPlace$Stand" "net" "LDarkPlace$Net;") (List.mem_of_getElem? (i := 1) rfl)) (fun _ h9 => h9) rfl dX3_nearestUnseen_1 ?_
  refine lv_aload_n hx hb dX3_nearestUnseen_4 rfl (lv_at hl 0 rfl) ?_
  refine va_get (D := D) (ci := 3) (v := .int (T.1 6)) (C := RX3) (T := TX3) (N := 9) hx hb hts iX3_nearestUnseen_X3 hown hK.1 hP 0 rfl rfl 6 (by decide) (hts (.fieldLink RX3 28 "DarkPlace$Stand" "unseen" "I") (List.mem_of_getElem? (i := 2) rfl)) (fun _ h9 => h9) rfl dX3_nearestUnseen_5 ?_
  obtain ⟨r8, k8, hf⟩ := dk_bind hf
  refine dk_ri (va_runV (As := [.int (T.1 6)]) (rest := []) ⟨hx, hb, hml, hown, hts⟩ (kX1_endsOf l D cy hG aG G (T.1 6) r8 k8) (cwV 1 hts gX3_nearestUnseen_X1_endsOf rfl rfl rfl (by decide +kernel) ⟨Nat.le_of_ble_eq_true rfl, Nat.le_of_ble_eq_true rfl⟩) (dk_preV hK (hP.sub (ws' := wNt cy hG aG G) [3, 4, 5, 6] rfl) (ci := 1) (q0 := 0) rfl rfl) rfl rfl hl.1 rfl (lv_room (Nat.le_of_ble_eq_true rfl)) dX3_nearestUnseen_8 ⟨Nat.zero_le _, Nat.zero_le _⟩) ?_
  refine lv_istore_n (lv' := [(2, .int r8), (0, .ref hT), (1, .int v1)]) hx hb dX3_nearestUnseen_11 rfl hl (by decide) rfl (fun ls hl => ?_)
  refine lv_iconst (v := 1) hx hb dX3_nearestUnseen_12 (by decide) ?_
  refine lv_iload_n hx hb dX3_nearestUnseen_13 rfl (lv_at hl 2 rfl) ?_
  refine lv_ishl hx hb dX3_nearestUnseen_14 ?_
  refine lv_istore_n (lv' := [(3, .int ((1 : Int32) <<< (v1 &&& 31))), (2, .int r8), (0, .ref hT), (1, .int v1)]) hx hb dX3_nearestUnseen_15 rfl hl (by decide) rfl (fun ls hl => ?_)
  refine lv_iconst (v := 1) hx hb dX3_nearestUnseen_16 (by decide) ?_
  refine lv_istore (lv' := [(4, .int 1), (3, .int ((1 : Int32) <<< (v1 &&& 31))), (2, .int r8), (0, .ref hT), (1, .int v1)]) hx hb dX3_nearestUnseen_17 hl (by decide) rfl (fun ls hl => ?_)
  exact L19 1000 r8 ((1 : Int32) <<< (v1 &&& 31)) 1 _ (lv_sub hl [3, 2, 1, 0] rfl) hf
theorem iX3_edgeTowards_X3 : ∀ w ∈ wsX30, w ∈ wsX3_edgeTowards := fun _ h => List.mem_cons_of_mem _ (List.mem_append_left _ (List.mem_append_right _ h))
set_option maxHeartbeats 4000000 in
set_option maxRecDepth 100000 in
theorem kX3_edgeTowards (l : Launch) (D : va_G) (cy : Nat → ClassId) (hT : Nat) (aT : Nat → Nat) (hG : Nat) (aG : Nat → Nat) (T : dk_O) (G : dk_O) (v1 : Int32) (v2 : Int32) (r : Int32) (hf : fX3_edgeTowards T G v1 v2 = some r) : dk_RdI l yX3_edgeTowards wsX3_edgeTowards ({ frames := 1, cells := 0, slots := 0, locals := 24 }) D cy [.ref hT, .int v1, .int v2] (wSt cy hT aT hG T ++ wNt cy hG aG G) r := by
  refine Met.ofW (cc := cX3_edgeTowards) (maxL := 6) (ret := (some .int)) (by decide) rfl ?_
  intro p e s m args below meth c s₁ B hml hv
  obtain ⟨rfl, hP, hK⟩ := hv
  have hx := B.exec
  have hb := B.bytes
  have hr := B.returns
  have hts := atoms_spec (ws := wsX3_edgeTowards) B.pre
  have hown : s.vm.findClass RX3 = some m.cls := findClass_of_methodNamed B.named
  have hlocks := B.notSynchronized
  have hl := lv_entry ([.ref hT, .int v1, .int v2]) (n := 6) (Nat.le_of_ble_eq_true rfl)
  rw [lg_entry_eq]
  generalize (lg_sl ([.ref hT, .int v1, .int v2]) ++ List.replicate (6 - (lg_sl ([.ref hT, .int v1, .int v2])).length) Slot.unset).toArray = ls at hl ⊢
  have hl : lv_has ls 6 [(0, .ref hT), (1, .int v1), (2, .int v2)] := hl
  have L7 : ∀ (fu7 : Nat) (x2 : Int32) (x3 : Int32) (x4 : Int32) (ls : Array Slot), lv_has ls 6 [(0, .ref hT), (2, .int x2), (3, .int x3), (4, .int x4)] → fX3_edgeTowards_L7 T G fu7 x2 x3 x4 = some r → W p l e (headSpec wsX3_edgeTowards ({ frames := 1, cells := 0, slots := 0, locals := 24 })).room s m ([.ref hT, .int v1, .int v2]).toArray below meth c s.heap [] 0 0 (MQ below (vp_Si (fun x => x = r)) ([.ref hT, .int v1, .int v2]).toArray s 0 0 (fun _ => False)) (F0 m 7 ls []) := by
    intro fu7
    induction fu7 with
    | zero =>
      intro x2 x3 x4 ls hl hf
      rw [fX3_edgeTowards_L7] at hf
      cases hf
    | succ fu7 ih7 =>
      intro x2 x3 x4 ls hl hf
      rw [fX3_edgeTowards_L7] at hf
      refine lv_iload hx hb dX3_edgeTowards_7 (lv_at hl 3 rfl) ?_
      refine lv_bipush (v := 8) hx hb dX3_edgeTowards_9 (by decide) ?_
      refine dk_cge (tgt := 68) hx hb dX3_edgeTowards_11 (by decide) hf (fun hf => ?_) (fun hf => ?_)
      · refine lv_bipush (v := (-9)) hx hb dX3_edgeTowards_68 (by decide) ?_
        exact W.iret (v := (-9)) hx hb hr (fun t ht hW => ⟨(-9), rfl, Option.some.inj hf, ht⟩) t_nil dX3_edgeTowards_70
      · refine lv_aload_n hx hb dX3_edgeTowards_14 rfl (lv_at hl 0 rfl) ?_
        refine va_get (D := D) (ci := 3) (v := .ref hG) (C := RX3) (T := TX3) (N := 9) hx hb hts iX3_edgeTowards_X3 hown hK.1 hP 0 rfl rfl 0 (by decide) (hts (.fieldLink RX3 37 "DarkPlace$Stand" "net" "LDarkPlace$Net;") (List.mem_of_getElem? (i := 1) rfl)) (fun _ h9 => h9) rfl dX3_edgeTowards_15 ?_
        refine lv_iload_n hx hb dX3_edgeTowards_18 rfl (lv_at hl 1 rfl) ?_
        obtain ⟨r19, k19, hf⟩ := dk_bind hf
        refine dk_ri (va_runV (As := [.int x2]) (rest := []) ⟨hx, hb, hml, hown, hts⟩ (kX1_edgesFrom l D cy hG aG G x2 r19 k19) (cwV 1 hts gX3_edgeTowards_X1_edgesFrom rfl rfl rfl (by decide +kernel) ⟨Nat.le_of_ble_eq_true rfl, Nat.le_of_ble_eq_true rfl⟩) (dk_preV hK (hP.sub (ws' := wNt cy hG aG G) [3, 4, 5, 6] rfl) (ci := 1) (q0 := 0) rfl rfl) rfl rfl hl.1 rfl (lv_room (Nat.le_of_ble_eq_true rfl)) dX3_edgeTowards_19 ⟨Nat.zero_le _, Nat.zero_le _⟩) ?_
        refine lv_aload_n hx hb dX3_edgeTowards_22 rfl (lv_at hl 0 rfl) ?_
        refine va_get (D := D) (ci := 3) (v := .int (T.1 7)) (C := RX3) (T := TX3) (N := 9) hx hb hts iX3_edgeTowards_X3 hown hK.1 hP 0 rfl rfl 7 (by decide) (hts (.fieldLink RX3 31 "DarkPlace$Stand" "safe" "I") (List.mem_of_getElem? (i := 2) rfl)) (fun _ h9 => h9) rfl dX3_edgeTowards_23 ?_
        refine lv_iand hx hb dX3_edgeTowards_26 ?_
        refine lv_aload_n hx hb dX3_edgeTowards_27 rfl (lv_at hl 0 rfl) ?_
        refine va_get (D := D) (ci := 3) (v := .ref hG) (C := RX3) (T := TX3) (N := 9) hx hb hts iX3_edgeTowards_X3 hown hK.1 hP 0 rfl rfl 0 (by decide) (hts (.fieldLink RX3 37 "DarkPlace$Stand" "net" "LDarkPlace$Net;") (List.mem_of_getElem? (i := 1) rfl)) (fun _ h9 => h9) rfl dX3_edgeTowards_28 ?_
        refine lv_iload_n hx hb dX3_edgeTowards_31 rfl (lv_at hl 2 rfl) ?_
        obtain ⟨r32, k32, hf⟩ := dk_bind hf
        refine dk_ri (va_runV (As := [.int x3]) (rest := [.int (r19 &&& (T.1 7))]) ⟨hx, hb, hml, hown, hts⟩ (kX1_edgesAtAny l D cy hG aG G x3 r32 k32) (cwV 1 hts gX3_edgeTowards_X1_edgesAtAny rfl rfl rfl (by decide +kernel) ⟨Nat.le_of_ble_eq_true rfl, Nat.le_of_ble_eq_true rfl⟩) (dk_preV hK (hP.sub (ws' := wNt cy hG aG G) [3, 4, 5, 6] rfl) (ci := 1) (q0 := 0) rfl rfl) rfl rfl hl.1 rfl (lv_room (Nat.le_of_ble_eq_true rfl)) dX3_edgeTowards_32 ⟨Nat.zero_le _, Nat.zero_le _⟩) ?_
        refine lv_iand hx hb dX3_edgeTowards_35 ?_
        refine lv_istore (lv' := [(5, .int ((r19 &&& (T.1 7)) &&& r32)), (0, .ref hT), (2, .int x2), (3, .int x3), (4, .int x4)]) hx hb dX3_edgeTowards_36 hl (by decide) rfl (fun ls hl => ?_)
        refine lv_iload hx hb dX3_edgeTowards_38 (lv_at hl 0 rfl) ?_
        refine dk_ieq (tgt := 49) hx hb dX3_edgeTowards_40 (by decide) hf (fun hf => ?_) (fun hf => ?_)
        · refine lv_aload_n hx hb dX3_edgeTowards_49 rfl (lv_at hl 1 rfl) ?_
          refine va_get (D := D) (ci := 3) (v := .ref hG) (C := RX3) (T := TX3) (N := 9) hx hb hts iX3_edgeTowards_X3 hown hK.1 hP 0 rfl rfl 0 (by decide) (hts (.fieldLink RX3 37 "DarkPlace$Stand" "net" "LDarkPlace$Net;") (List.mem_of_getElem? (i := 1) rfl)) (fun _ h9 => h9) rfl dX3_edgeTowards_50 ?_
          refine lv_iload_n hx hb dX3_edgeTowards_53 rfl (lv_at hl 3 rfl) ?_
          refine lv_aload_n hx hb dX3_edgeTowards_54 rfl (lv_at hl 1 rfl) ?_
          refine va_get (D := D) (ci := 3) (v := .int (T.1 7)) (C := RX3) (T := TX3) (N := 9) hx hb hts iX3_edgeTowards_X3 hown hK.1 hP 0 rfl rfl 7 (by decide) (hts (.fieldLink RX3 31 "DarkPlace$Stand" "safe" "I") (List.mem_of_getElem? (i := 2) rfl)) (fun _ h9 => h9) rfl dX3_edgeTowards_55 ?_
          obtain ⟨r58, k58, hf⟩ := dk_bind hf
          refine dk_ri (va_runV (As := [.int x3, .int (T.1 7)]) (rest := []) ⟨hx, hb, hml, hown, hts⟩ (kX1_widened l D cy hG aG G x3 (T.1 7) r58 k58) (cwV 2 hts gX3_edgeTowards_X1_widened rfl rfl rfl (by decide +kernel) ⟨Nat.le_of_ble_eq_true rfl, Nat.le_of_ble_eq_true rfl⟩) (dk_preV hK (hP.sub (ws' := wNt cy hG aG G) [3, 4, 5, 6] rfl) (ci := 1) (q0 := 0) rfl rfl) rfl rfl hl.1 rfl (lv_room (Nat.le_of_ble_eq_true rfl)) dX3_edgeTowards_58 ⟨Nat.zero_le _, Nat.zero_le _⟩) ?_
          refine lv_istore_n (lv' := [(3, .int r58), (5, .int ((r19 &&& (T.1 7)) &&& r32)), (0, .ref hT), (2, .int x2), (4, .int x4)]) hx hb dX3_edgeTowards_61 rfl hl (by decide) rfl (fun ls hl => ?_)
          refine lv_iinc (v := x4 + 1) (lv' := [(4, .int (x4 + 1)), (3, .int r58), (5, .int ((r19 &&& (T.1 7)) &&& r32)), (0, .ref hT), (2, .int x2)]) hx hb dX3_edgeTowards_62 hl (k := 4) rfl rfl (by decide) rfl (fun ls hl => ?_)
          refine lv_goto (tgt := 7) hx hb dX3_edgeTowards_65 (by decide) ?_
          exact ih7 x2 r58 (x4 + 1) _ (lv_sub hl [3, 4, 1, 0] rfl) hf
        · refine lv_iload hx hb dX3_edgeTowards_43 (lv_at hl 0 rfl) ?_
          obtain ⟨r45, k45, hf⟩ := dk_bind hf
          refine dk_ri (va_runSN (As := [.int ((r19 &&& (T.1 7)) &&& r32)]) (rest := []) ⟨hx, hb, hml, hown, hts⟩ (kX5_least l D cy ((r19 &&& (T.1 7)) &&& r32) r45 k45) ⟨va_cnB 1 hts gX3_edgeTowards_X5_least_n102 rfl rfl rfl (hK.2 (.methodLinkNest "DarkPlace$Stand" 102 ⟨"DarkPlace", "least", "(I)I"⟩ "DarkPlace") (List.mem_of_getElem? (i := 22) rfl)) (hts (.initialized RX5) (List.mem_of_getElem? (i := 14) rfl)) (by decide +kernel) ⟨Nat.le_of_ble_eq_true rfl, Nat.le_of_ble_eq_true rfl⟩, (hts (.static yX5_least) (List.mem_of_getElem? (i := 13) rfl)), trivial⟩ (dk_preS hK (hP.sub (ws' := []) [] rfl)) rfl rfl hl.1 rfl (lv_room (Nat.le_of_ble_eq_true rfl)) dX3_edgeTowards_45 ⟨Nat.zero_le _, Nat.zero_le _⟩) ?_
          exact W.iret (v := r45) hx hb hr (fun t ht hW => ⟨r45, rfl, Option.some.inj hf, ht⟩) t_nil dX3_edgeTowards_48
  unfold fX3_edgeTowards at hf
  refine lv_iconst (v := 1) hx hb dX3_edgeTowards_0 (by decide) ?_
  refine lv_iload_n hx hb dX3_edgeTowards_1 rfl (lv_at hl 1 rfl) ?_
  refine lv_ishl hx hb dX3_edgeTowards_2 ?_
  refine lv_istore_n (lv' := [(3, .int ((1 : Int32) <<< (v1 &&& 31))), (0, .ref hT), (1, .int v1), (2, .int v2)]) hx hb dX3_edgeTowards_3 rfl hl (by decide) rfl (fun ls hl => ?_)
  refine lv_iconst (v := 1) hx hb dX3_edgeTowards_4 (by decide) ?_
  refine lv_istore (lv' := [(4, .int 1), (3, .int ((1 : Int32) <<< (v1 &&& 31))), (0, .ref hT), (1, .int v1), (2, .int v2)]) hx hb dX3_edgeTowards_5 hl (by decide) rfl (fun ls hl => ?_)
  exact L7 1000 v2 ((1 : Int32) <<< (v1 &&& 31)) 1 _ (lv_sub hl [2, 4, 1, 0] rfl) hf
theorem iX3_cautiousEdge_X3 : ∀ w ∈ wsX30, w ∈ wsX3_cautiousEdge := fun _ h => List.mem_cons_of_mem _ (List.mem_append_left _ (List.mem_append_right _ h))
set_option maxHeartbeats 4000000 in
set_option maxRecDepth 100000 in
theorem kX3_cautiousEdge (l : Launch) (D : va_G) (cy : Nat → ClassId) (hT : Nat) (aT : Nat → Nat) (hG : Nat) (aG : Nat → Nat) (T : dk_O) (G : dk_O) (v1 : Int32) (r : Int32) (hf : fX3_cautiousEdge T G v1 = some r) : dk_RdI l yX3_cautiousEdge wsX3_cautiousEdge ({ frames := 2, cells := 0, slots := 0, locals := 49 }) D cy [.ref hT, .int v1] (wSt cy hT aT hG T ++ wNt cy hG aG G) r := by
  refine Met.ofW (cc := cX3_cautiousEdge) (maxL := 4) (ret := (some .int)) (by decide) rfl ?_
  intro p e s m args below meth c s₁ B hml hv
  obtain ⟨rfl, hP, hK⟩ := hv
  have hx := B.exec
  have hb := B.bytes
  have hr := B.returns
  have hts := atoms_spec (ws := wsX3_cautiousEdge) B.pre
  have hown : s.vm.findClass RX3 = some m.cls := findClass_of_methodNamed B.named
  have hlocks := B.notSynchronized
  have hl := lv_entry ([.ref hT, .int v1]) (n := 4) (Nat.le_of_ble_eq_true rfl)
  rw [lg_entry_eq]
  generalize (lg_sl ([.ref hT, .int v1]) ++ List.replicate (4 - (lg_sl ([.ref hT, .int v1])).length) Slot.unset).toArray = ls at hl ⊢
  have hl : lv_has ls 4 [(0, .ref hT), (1, .int v1)] := hl
  unfold fX3_cautiousEdge at hf
  refine lv_aload_n hx hb dX3_cautiousEdge_0 rfl (lv_at hl 0 rfl) ?_
  refine lv_iload_n hx hb dX3_cautiousEdge_1 rfl (lv_at hl 1 rfl) ?_
  obtain ⟨r2, k2, hf⟩ := dk_bind hf
  refine dk_ri (va_runV (As := [.int v1]) (rest := []) ⟨hx, hb, hml, hown, hts⟩ (kX3_lives l D cy hT aT hG aG T G v1 r2 k2) (cwV 1 hts gX3_cautiousEdge_X3_lives rfl rfl rfl (by decide +kernel) ⟨Nat.le_of_ble_eq_true rfl, Nat.le_of_ble_eq_true rfl⟩) (dk_preV hK (hP.sub (ws' := wSt cy hT aT hG T ++ wNt cy hG aG G) [0, 1, 2, 3, 4, 5, 6] rfl) (ci := 3) (q0 := 0) rfl rfl) rfl rfl hl.1 rfl (lv_room (Nat.le_of_ble_eq_true rfl)) dX3_cautiousEdge_2 ⟨Nat.zero_le _, Nat.zero_le _⟩) ?_
  refine dk_ine (tgt := 11) hx hb dX3_cautiousEdge_5 (by decide) hf (fun hf => ?_) (fun hf => ?_)
  · refine lv_aload_n hx hb dX3_cautiousEdge_11 rfl (lv_at hl 0 rfl) ?_
    refine va_get (D := D) (ci := 3) (v := .ref (aT 2)) (C := RX3) (T := TX3) (N := 9) hx hb hts iX3_cautiousEdge_X3 hown hK.1 hP 0 rfl rfl 2 (by decide) (hts (.fieldLink RX3 15 "DarkPlace$Stand" "out" "[I") (List.mem_of_getElem? (i := 1) rfl)) (fun _ h9 => h9) rfl dX3_cautiousEdge_12 ?_
    refine lv_iload_n hx hb dX3_cautiousEdge_15 rfl (lv_at hl 1 rfl) ?_
    refine dk_iald hx hb hK.1 hP 2 0 rfl rfl hf dX3_cautiousEdge_16 (fun d16 hf => ?_)
    refine lv_bipush (v := (-9)) hx hb dX3_cautiousEdge_17 (by decide) ?_
    refine dk_ceq (tgt := 29) hx hb dX3_cautiousEdge_19 (by decide) hf (fun hf => ?_) (fun hf => ?_)
    · refine lv_aload_n hx hb dX3_cautiousEdge_29 rfl (lv_at hl 0 rfl) ?_
      obtain ⟨r30, k30, hf⟩ := dk_bind hf
      refine dk_ri (va_runV (As := []) (rest := []) ⟨hx, hb, hml, hown, hts⟩ (kX3_isKnown l D cy hT aT hG aG T G r30 k30) (cwV 0 hts gX3_cautiousEdge_X3_isKnown rfl rfl rfl (by decide +kernel) ⟨Nat.le_of_ble_eq_true rfl, Nat.le_of_ble_eq_true rfl⟩) (dk_preV hK (hP.sub (ws' := wSt cy hT aT hG T ++ wNt cy hG aG G) [0, 1, 2, 3, 4, 5, 6] rfl) (ci := 3) (q0 := 0) rfl rfl) rfl rfl hl.1 rfl (lv_room (Nat.le_of_ble_eq_true rfl)) dX3_cautiousEdge_30 ⟨Nat.zero_le _, Nat.zero_le _⟩) ?_
      refine dk_ieq (tgt := 39) hx hb dX3_cautiousEdge_33 (by decide) hf (fun hf => ?_) (fun hf => ?_)
      · refine lv_aload_n hx hb dX3_cautiousEdge_39 rfl (lv_at hl 0 rfl) ?_
        refine va_get (D := D) (ci := 3) (v := .ref hG) (C := RX3) (T := TX3) (N := 9) hx hb hts iX3_cautiousEdge_X3 hown hK.1 hP 0 rfl rfl 0 (by decide) (hts (.fieldLink RX3 37 "DarkPlace$Stand" "net" "LDarkPlace$Net;") (List.mem_of_getElem? (i := 2) rfl)) (fun _ h9 => h9) rfl dX3_cautiousEdge_40 ?_
        refine lv_aload_n hx hb dX3_cautiousEdge_43 rfl (lv_at hl 0 rfl) ?_
        refine va_get (D := D) (ci := 3) (v := .ref (aT 1)) (C := RX3) (T := TX3) (N := 9) hx hb hts iX3_cautiousEdge_X3 hown hK.1 hP 0 rfl rfl 1 (by decide) (hts (.fieldLink RX3 9 "DarkPlace$Stand" "at" "[I") (List.mem_of_getElem? (i := 3) rfl)) (fun _ h9 => h9) rfl dX3_cautiousEdge_44 ?_
        refine lv_iload_n hx hb dX3_cautiousEdge_47 rfl (lv_at hl 1 rfl) ?_
        refine dk_iald hx hb hK.1 hP 1 0 rfl rfl hf dX3_cautiousEdge_48 (fun d48 hf => ?_)
        obtain ⟨r49, k49, hf⟩ := dk_bind hf
        refine dk_ri (va_runV (As := [.int d48]) (rest := []) ⟨hx, hb, hml, hown, hts⟩ (kX1_edgesFrom l D cy hG aG G d48 r49 k49) (cwV 1 hts gX3_cautiousEdge_X1_edgesFrom rfl rfl rfl (by decide +kernel) ⟨Nat.le_of_ble_eq_true rfl, Nat.le_of_ble_eq_true rfl⟩) (dk_preV hK (hP.sub (ws' := wNt cy hG aG G) [3, 4, 5, 6] rfl) (ci := 1) (q0 := 0) rfl rfl) rfl rfl hl.1 rfl (lv_room (Nat.le_of_ble_eq_true rfl)) dX3_cautiousEdge_49 ⟨Nat.zero_le _, Nat.zero_le _⟩) ?_
        refine lv_aload_n hx hb dX3_cautiousEdge_52 rfl (lv_at hl 0 rfl) ?_
        refine va_get (D := D) (ci := 3) (v := .int (T.1 6)) (C := RX3) (T := TX3) (N := 9) hx hb hts iX3_cautiousEdge_X3 hown hK.1 hP 0 rfl rfl 6 (by decide) (hts (.fieldLink RX3 28 "DarkPlace$Stand" "unseen" "I") (List.mem_of_getElem? (i := 4) rfl)) (fun _ h9 => h9) rfl dX3_cautiousEdge_53 ?_
        refine lv_iand hx hb dX3_cautiousEdge_56 ?_
        refine lv_istore_n (lv' := [(2, .int (r49 &&& (T.1 6))), (0, .ref hT), (1, .int v1)]) hx hb dX3_cautiousEdge_57 rfl hl (by decide) rfl (fun ls hl => ?_)
        refine lv_iload_n hx hb dX3_cautiousEdge_58 rfl (lv_at hl 0 rfl) ?_
        refine dk_ieq (tgt := 67) hx hb dX3_cautiousEdge_59 (by decide) hf (fun hf => ?_) (fun hf => ?_)
        · refine lv_aload_n hx hb dX3_cautiousEdge_67 rfl (lv_at hl 1 rfl) ?_
          refine lv_aload_n hx hb dX3_cautiousEdge_68 rfl (lv_at hl 1 rfl) ?_
          refine va_get (D := D) (ci := 3) (v := .ref (aT 1)) (C := RX3) (T := TX3) (N := 9) hx hb hts iX3_cautiousEdge_X3 hown hK.1 hP 0 rfl rfl 1 (by decide) (hts (.fieldLink RX3 9 "DarkPlace$Stand" "at" "[I") (List.mem_of_getElem? (i := 3) rfl)) (fun _ h9 => h9) rfl dX3_cautiousEdge_69 ?_
          refine lv_iload_n hx hb dX3_cautiousEdge_72 rfl (lv_at hl 2 rfl) ?_
          refine dk_iald hx hb hK.1 hP 1 0 rfl rfl hf dX3_cautiousEdge_73 (fun d73 hf => ?_)
          obtain ⟨r74, k74, hf⟩ := dk_bind hf
          refine dk_ri (va_runV (As := [.int d73]) (rest := []) ⟨hx, hb, hml, hown, hts⟩ (kX3_nearestUnseen l D cy hT aT hG aG T G d73 r74 k74) (cwV 1 hts gX3_cautiousEdge_X3_nearestUnseen rfl rfl rfl (by decide +kernel) ⟨Nat.le_of_ble_eq_true rfl, Nat.le_of_ble_eq_true rfl⟩) (dk_preV hK (hP.sub (ws' := wSt cy hT aT hG T ++ wNt cy hG aG G) [0, 1, 2, 3, 4, 5, 6] rfl) (ci := 3) (q0 := 0) rfl rfl) rfl rfl hl.1 rfl (lv_room (Nat.le_of_ble_eq_true rfl)) dX3_cautiousEdge_74 ⟨Nat.zero_le _, Nat.zero_le _⟩) ?_
          refine lv_istore_n (lv' := [(3, .int r74), (2, .int (r49 &&& (T.1 6))), (0, .ref hT), (1, .int v1)]) hx hb dX3_cautiousEdge_77 rfl hl (by decide) rfl (fun ls hl => ?_)
          refine lv_iload_n hx hb dX3_cautiousEdge_78 rfl (lv_at hl 0 rfl) ?_
          refine lv_bipush (v := (-9)) hx hb dX3_cautiousEdge_79 (by decide) ?_
          refine dk_cne (tgt := 89) hx hb dX3_cautiousEdge_81 (by decide) hf (fun hf => ?_) (fun hf => ?_)
          · refine lv_aload_n hx hb dX3_cautiousEdge_89 rfl (lv_at hl 2 rfl) ?_
            refine lv_iload_n hx hb dX3_cautiousEdge_90 rfl (lv_at hl 0 rfl) ?_
            refine lv_aload_n hx hb dX3_cautiousEdge_91 rfl (lv_at hl 2 rfl) ?_
            refine va_get (D := D) (ci := 3) (v := .ref (aT 1)) (C := RX3) (T := TX3) (N := 9) hx hb hts iX3_cautiousEdge_X3 hown hK.1 hP 0 rfl rfl 1 (by decide) (hts (.fieldLink RX3 9 "DarkPlace$Stand" "at" "[I") (List.mem_of_getElem? (i := 3) rfl)) (fun _ h9 => h9) rfl dX3_cautiousEdge_92 ?_
            refine lv_iload_n hx hb dX3_cautiousEdge_95 rfl (lv_at hl 3 rfl) ?_
            refine dk_iald hx hb hK.1 hP 1 0 rfl rfl hf dX3_cautiousEdge_96 (fun d96 hf => ?_)
            obtain ⟨r97, k97, hf⟩ := dk_bind hf
            refine dk_ri (va_runV (As := [.int r74, .int d96]) (rest := []) ⟨hx, hb, hml, hown, hts⟩ (kX3_edgeTowards l D cy hT aT hG aG T G r74 d96 r97 k97) (cwV 2 hts gX3_cautiousEdge_X3_edgeTowards rfl rfl rfl (by decide +kernel) ⟨Nat.le_of_ble_eq_true rfl, Nat.le_of_ble_eq_true rfl⟩) (dk_preV hK (hP.sub (ws' := wSt cy hT aT hG T ++ wNt cy hG aG G) [0, 1, 2, 3, 4, 5, 6] rfl) (ci := 3) (q0 := 0) rfl rfl) rfl rfl hl.1 rfl (lv_room (Nat.le_of_ble_eq_true rfl)) dX3_cautiousEdge_97 ⟨Nat.zero_le _, Nat.zero_le _⟩) ?_
            exact W.iret (v := r97) hx hb hr (fun t ht hW => ⟨r97, rfl, Option.some.inj hf, ht⟩) t_nil dX3_cautiousEdge_100
          · refine lv_bipush (v := (-9)) hx hb dX3_cautiousEdge_84 (by decide) ?_
            refine lv_goto (tgt := 100) hx hb dX3_cautiousEdge_86 (by decide) ?_
            exact W.iret (v := (-9)) hx hb hr (fun t ht hW => ⟨(-9), rfl, Option.some.inj hf, ht⟩) t_nil dX3_cautiousEdge_100
        · refine lv_iload_n hx hb dX3_cautiousEdge_62 rfl (lv_at hl 0 rfl) ?_
          obtain ⟨r63, k63, hf⟩ := dk_bind hf
          refine dk_ri (va_runSN (As := [.int (r49 &&& (T.1 6))]) (rest := []) ⟨hx, hb, hml, hown, hts⟩ (kX5_least l D cy (r49 &&& (T.1 6)) r63 k63) ⟨va_cnB 1 hts gX3_cautiousEdge_X5_least_n102 rfl rfl rfl (hK.2 (.methodLinkNest "DarkPlace$Stand" 102 ⟨"DarkPlace", "least", "(I)I"⟩ "DarkPlace") (List.mem_of_getElem? (i := 22) rfl)) (hts (.initialized RX5) (List.mem_of_getElem? (i := 38) rfl)) (by decide +kernel) ⟨Nat.le_of_ble_eq_true rfl, Nat.le_of_ble_eq_true rfl⟩, (hts (.static yX5_least) (List.mem_of_getElem? (i := 37) rfl)), trivial⟩ (dk_preS hK (hP.sub (ws' := []) [] rfl)) rfl rfl hl.1 rfl (lv_room (Nat.le_of_ble_eq_true rfl)) dX3_cautiousEdge_63 ⟨Nat.zero_le _, Nat.zero_le _⟩) ?_
          exact W.iret (v := r63) hx hb hr (fun t ht hW => ⟨r63, rfl, Option.some.inj hf, ht⟩) t_nil dX3_cautiousEdge_66
      · refine lv_bipush (v := (-9)) hx hb dX3_cautiousEdge_36 (by decide) ?_
        exact W.iret (v := (-9)) hx hb hr (fun t ht hW => ⟨(-9), rfl, Option.some.inj hf, ht⟩) t_nil dX3_cautiousEdge_38
    · refine lv_aload_n hx hb dX3_cautiousEdge_22 rfl (lv_at hl 0 rfl) ?_
      refine va_get (D := D) (ci := 3) (v := .ref (aT 2)) (C := RX3) (T := TX3) (N := 9) hx hb hts iX3_cautiousEdge_X3 hown hK.1 hP 0 rfl rfl 2 (by decide) (hts (.fieldLink RX3 15 "DarkPlace$Stand" "out" "[I") (List.mem_of_getElem? (i := 1) rfl)) (fun _ h9 => h9) rfl dX3_cautiousEdge_23 ?_
      refine lv_iload_n hx hb dX3_cautiousEdge_26 rfl (lv_at hl 1 rfl) ?_
      refine dk_iald hx hb hK.1 hP 2 0 rfl rfl hf dX3_cautiousEdge_27 (fun d27 hf => ?_)
      exact W.iret (v := d27) hx hb hr (fun t ht hW => ⟨d27, rfl, Option.some.inj hf, ht⟩) t_nil dX3_cautiousEdge_28
  · refine lv_bipush (v := (-9)) hx hb dX3_cautiousEdge_8 (by decide) ?_
    exact W.iret (v := (-9)) hx hb hr (fun t ht hW => ⟨(-9), rfl, Option.some.inj hf, ht⟩) t_nil dX3_cautiousEdge_10
theorem iX3_playRound_X3 : ∀ w ∈ wsX30, w ∈ wsX3_playRound := fun _ h => List.mem_cons_of_mem _ (List.mem_append_left _ (List.mem_append_right _ h))
set_option maxHeartbeats 4000000 in
set_option maxRecDepth 100000 in
theorem kX3_playRound (l : Launch) (D : va_G) (cy : Nat → ClassId) (hT : Nat) (aT : Nat → Nat) (hG : Nat) (aG : Nat → Nat) (sz : Nat) (T : dk_O) (G : dk_O) (v1 : Int32) (r : Int32) (oT_I : (Nat → Int32)) (oT_1 : (Nat → Int32)) (oT_2 : (Nat → Int32)) (hf : fX3_playRound T G v1 = some (r, oT_I, oT_1, oT_2)) : dk_MuI l yX3_playRound wsX3_playRound ({ frames := 3, cells := 0, slots := 0, locals := 72 }) D cy [.ref hT, .int v1] (wSt cy hT aT hG T ++ wNt cy hG aG G) (wSt cy hT aT hG (oT_I, dk_upA (dk_upA T.2 1 oT_1) 2 oT_2) ++ wNt cy hG aG G) sz r := by
  refine Met.ofW (cc := cX3_playRound) (maxL := 5) (ret := (some .int)) (by decide) rfl ?_
  intro p e s m args below meth c s₁ B hml hv
  obtain ⟨rfl, hsz, hP, hK, hD0⟩ := hv
  have hx := B.exec
  have hb := B.bytes
  have hr := B.returns
  have hts := atoms_spec (ws := wsX3_playRound) B.pre
  have hown : s.vm.findClass RX3 = some m.cls := findClass_of_methodNamed B.named
  have hlocks := B.notSynchronized
  subst hsz
  have hD := hD0.self (sz := s.heap.size)
  generalize hAe : va_A (wSt cy hT aT hG T ++ wNt cy hG aG G) s.heap.size = A at hD ⊢
  have hA : ∀ q : Nat, s.heap.size ≤ q → A q := fun q h => by rw [← hAe]; exact Or.inr h
  have hS : va_S A s.heap s.heap [] := va_S.rf
  have hl := lv_entry ([.ref hT, .int v1]) (n := 5) (Nat.le_of_ble_eq_true rfl)
  rw [lg_entry_eq]
  generalize (lg_sl ([.ref hT, .int v1]) ++ List.replicate (5 - (lg_sl ([.ref hT, .int v1])).length) Slot.unset).toArray = ls at hl ⊢
  have hl : lv_has ls 5 [(0, .ref hT), (1, .int v1)] := hl
  have L4 : ∀ (fu4 : Nat) (x1 : Int32) (x2 : Int32) (x3 : Int32) (T_I : (Nat → Int32)) (T_1 : (Nat → Int32)) (T_2 : (Nat → Int32)) (H : Heap) (locs : List Loc) (ls : Array Slot), va_P D vwCl (wSt cy hT aT hG (T_I, dk_upA (dk_upA T.2 1 T_1) 2 T_2) ++ wNt cy hG aG G) H → va_D A (wSt cy hT aT hG (T_I, dk_upA (dk_upA T.2 1 T_1) 2 T_2) ++ wNt cy hG aG G) → va_S A s.heap H locs → lv_has ls 5 [(0, .ref hT), (1, .int x1), (2, .int x2), (3, .int x3)] → fX3_playRound_L4 T G fu4 x1 x2 x3 T_I T_1 T_2 = some (r, oT_I, oT_1, oT_2) → W p l e (headSpec wsX3_playRound ({ frames := 3, cells := 0, slots := 0, locals := 72 })).room s m ([.ref hT, .int v1]).toArray below meth c H locs 0 0 (MQ below (va_Qi (fun (x : Int32) (_ : Unit) => x = r) (dk_B D (wSt cy hT aT hG (oT_I, dk_upA (dk_upA T.2 1 oT_1) 2 oT_2) ++ wNt cy hG aG G) A) A) ([.ref hT, .int v1]).toArray s 0 0 A) (F0 m 4 ls []) := by
    intro fu4
    induction fu4 with
    | zero =>
      intro x1 x2 x3 T_I T_1 T_2 H locs ls hP hD hS hl hf
      rw [fX3_playRound_L4] at hf
      cases hf
    | succ fu4 ih4 =>
      intro x1 x2 x3 T_I T_1 T_2 H locs ls hP hD hS hl hf
      rw [fX3_playRound_L4] at hf
      refine lv_iload_n hx hb dX3_playRound_4 rfl (lv_at hl 3 rfl) ?_
      refine lv_aload_n hx hb dX3_playRound_5 rfl (lv_at hl 0 rfl) ?_
      refine va_get (D := D) (ci := 3) (v := .int (T_I 3)) (C := RX3) (T := TX3) (N := 9) hx hb hts iX3_playRound_X3 hown hK.1 hP 0 rfl rfl 3 (by decide) (hts (.fieldLink RX3 18 "DarkPlace$Stand" "searchers" "I") (List.mem_of_getElem? (i := 1) rfl)) (fun _ h9 => h9) rfl dX3_playRound_6 ?_
      refine dk_cge (tgt := 50) hx hb dX3_playRound_9 (by decide) hf (fun hf => ?_) (fun hf => ?_)
      · refine lv_iload_n hx hb dX3_playRound_50 rfl (lv_at hl 2 rfl) ?_
        have e := Option.some.inj hf
        simp only [Prod.mk.injEq] at e
        obtain ⟨e0, e1, e2, e3⟩ := e
        subst e1
        subst e2
        subst e3
        exact W.iret (v := x2) hx hb hr (fun t ht hW => ⟨⟨x2, (), rfl, e0, by rw [ht]; exact hP, hD⟩, hS.F ht⟩) hS.2.2 dX3_playRound_51
      · refine lv_iload_n hx hb dX3_playRound_12 rfl (lv_at hl 1 rfl) ?_
        refine lv_iload_n hx hb dX3_playRound_13 rfl (lv_at hl 3 rfl) ?_
        obtain ⟨r14, k14, hf⟩ := dk_bind hf
        refine dk_ri (va_runSN (As := [.int x1, .int x3]) (rest := []) ⟨hx, hb, hml, hown, hts⟩ (kX5_holds l D cy x1 x3 r14 k14) ⟨va_cnB 2 hts gX3_playRound_X5_holds_n85 rfl rfl rfl (hK.2 (.methodLinkNest "DarkPlace$Stand" 85 ⟨"DarkPlace", "holds", "(II)Z"⟩ "DarkPlace") (List.mem_of_getElem? (i := 21) rfl)) (hts (.initialized RX5) (List.mem_of_getElem? (i := 3) rfl)) (by decide +kernel) ⟨Nat.le_of_ble_eq_true rfl, Nat.le_of_ble_eq_true rfl⟩, (hts (.static yX5_holds) (List.mem_of_getElem? (i := 2) rfl)), trivial⟩ (dk_preS hK (hP.sub (ws' := []) [] rfl)) rfl rfl hl.1 rfl (lv_room (Nat.le_of_ble_eq_true rfl)) dX3_playRound_14 ⟨Nat.zero_le _, Nat.zero_le _⟩) ?_
        refine dk_ieq (tgt := 44) hx hb dX3_playRound_17 (by decide) hf (fun hf => ?_) (fun hf => ?_)
        · refine lv_iinc (v := x3 + 1) (lv' := [(3, .int (x3 + 1)), (0, .ref hT), (1, .int x1), (2, .int x2)]) hx hb dX3_playRound_44 hl (k := 3) rfl rfl (by decide) rfl (fun ls hl => ?_)
          refine lv_goto (tgt := 4) hx hb dX3_playRound_47 (by decide) ?_
          exact ih4 x1 x2 (x3 + 1) T_I T_1 T_2 _ _ _ hP hD hS (lv_sub hl [1, 2, 3, 0] rfl) hf
        · refine lv_aload_n hx hb dX3_playRound_20 rfl (lv_at hl 0 rfl) ?_
          refine lv_iload_n hx hb dX3_playRound_21 rfl (lv_at hl 3 rfl) ?_
          obtain ⟨r22, k22, hf⟩ := dk_bind hf
          refine dk_ri (va_runV (As := [.int x3]) (rest := []) ⟨hx, hb, hml, hown, hts⟩ (kX3_cautiousEdge l D cy hT aT hG aG (T_I, dk_upA (dk_upA T.2 1 T_1) 2 T_2) G x3 r22 k22) (cwV 1 hts gX3_playRound_X3_cautiousEdge rfl rfl rfl (by decide +kernel) ⟨Nat.le_of_ble_eq_true rfl, Nat.le_of_ble_eq_true rfl⟩) (dk_preV hK (hP.sub (ws' := wSt cy hT aT hG (T_I, dk_upA (dk_upA T.2 1 T_1) 2 T_2) ++ wNt cy hG aG G) [0, 1, 2, 3, 4, 5, 6] rfl) (ci := 3) (q0 := 0) rfl rfl) rfl rfl hl.1 rfl (lv_room (Nat.le_of_ble_eq_true rfl)) dX3_playRound_22 ⟨Nat.zero_le _, Nat.zero_le _⟩) ?_
          refine lv_istore (lv' := [(4, .int r22), (0, .ref hT), (1, .int x1), (2, .int x2), (3, .int x3)]) hx hb dX3_playRound_25 hl (by decide) rfl (fun ls hl => ?_)
          refine lv_iload hx hb dX3_playRound_27 (lv_at hl 0 rfl) ?_
          refine lv_bipush (v := (-9)) hx hb dX3_playRound_29 (by decide) ?_
          refine dk_ceq (tgt := 44) hx hb dX3_playRound_31 (by decide) hf (fun hf => ?_) (fun hf => ?_)
          · refine lv_iinc (v := x3 + 1) (lv' := [(3, .int (x3 + 1)), (4, .int r22), (0, .ref hT), (1, .int x1), (2, .int x2)]) hx hb dX3_playRound_44 hl (k := 4) rfl rfl (by decide) rfl (fun ls hl => ?_)
            refine lv_goto (tgt := 4) hx hb dX3_playRound_47 (by decide) ?_
            exact ih4 x1 x2 (x3 + 1) T_I T_1 T_2 _ _ _ hP hD hS (lv_sub hl [2, 3, 4, 0] rfl) hf
          · refine lv_aload_n hx hb dX3_playRound_34 rfl (lv_at hl 1 rfl) ?_
            refine lv_iload_n hx hb dX3_playRound_35 rfl (lv_at hl 4 rfl) ?_
            refine lv_iload hx hb dX3_playRound_36 (lv_at hl 0 rfl) ?_
            obtain ⟨⟨i38_0, g38_1, g38_2⟩, k38, hf⟩ := dk_bind hf
            dsimp only at hf
            have hPc := hP.sub (ws' := wSt cy hT aT hG (T_I, dk_upA (dk_upA T.2 1 T_1) 2 T_2) ++ wNt cy hG aG G) [0, 1, 2, 3, 4, 5, 6] rfl
            have hDc := hD.sub (ws' := wSt cy hT aT hG (T_I, dk_upA (dk_upA T.2 1 T_1) 2 T_2) ++ wNt cy hG aG G) [0, 1, 2, 3, 4, 5, 6] (by decide) rfl
            have hFc := va_free (wc := wSt cy hT aT hG (T_I, dk_upA (dk_upA T.2 1 T_1) 2 T_2) ++ wNt cy hG aG G) hD hS hA [0, 1, 2, 3, 4, 5, 6] rfl
            refine va_callv (va_runV (As := [.int x3, .int r22]) (rest := []) ⟨hx, hb, hml, hown, hts⟩ (kX3_go l D cy hT aT hG aG H.size (T_I, dk_upA (dk_upA T.2 1 T_1) 2 T_2) G x3 r22 i38_0 g38_1 g38_2 k38) (cwV 2 hts gX3_playRound_X3_go rfl rfl rfl (by decide +kernel) ⟨Nat.le_of_ble_eq_true rfl, Nat.le_of_ble_eq_true rfl⟩) (dk_premV hK hPc hDc (ci := 3) (q0 := 0) rfl rfl) rfl rfl hl.1 rfl (lv_room (Nat.le_of_ble_eq_true rfl)) dX3_playRound_38 ⟨Nat.zero_le _, Nat.zero_le _⟩) hS (fun q _ h => hFc q h) hFc (fun u t H1 locs ht hvm hw hB hz1 hk1 hS => ?_)
            obtain ⟨hP1, hD1⟩ := hB
            rw [ht] at hP1
            obtain ⟨hP, hD⟩ := va_join (wr := ([] : List Nat).filterMap (fun i => (wSt cy hT aT hG (T_I, dk_upA (dk_upA T.2 1 T_1) 2 T_2) ++ wNt cy hG aG G)[i]?)) (w1 := wSt cy hT aT hG (i38_0, dk_upA (dk_upA T.2 1 g38_1) 2 g38_2) ++ wNt cy hG aG G) hP hD [0, 1, 2, 3, 4, 5, 6] [] rfl rfl (by decide) (by decide) hk1 hFc hP1 hD1
            generalize H1 = H at hP hS ⊢
            have hP : va_P D vwCl (wSt cy hT aT hG (i38_0, dk_upA (dk_upA T.2 1 g38_1) 2 g38_2) ++ wNt cy hG aG G) H := hP.sub [0, 1, 2, 3, 4, 5, 6] rfl
            have hD : va_D A (wSt cy hT aT hG (i38_0, dk_upA (dk_upA T.2 1 g38_1) 2 g38_2) ++ wNt cy hG aG G) := hD.sub [0, 1, 2, 3, 4, 5, 6] (by decide) rfl
            refine lv_iinc (v := x2 + 1) (lv' := [(2, .int (x2 + 1)), (4, .int r22), (0, .ref hT), (1, .int x1), (3, .int x3)]) hx hb dX3_playRound_41 hl (k := 3) rfl rfl (by decide) rfl (fun ls hl => ?_)
            refine lv_iinc (v := x3 + 1) (lv' := [(3, .int (x3 + 1)), (2, .int (x2 + 1)), (4, .int r22), (0, .ref hT), (1, .int x1)]) hx hb dX3_playRound_44 hl (k := 4) rfl rfl (by decide) rfl (fun ls hl => ?_)
            refine lv_goto (tgt := 4) hx hb dX3_playRound_47 (by decide) ?_
            exact ih4 x1 (x2 + 1) (x3 + 1) i38_0 g38_1 g38_2 _ _ _ hP hD hS (lv_sub hl [3, 4, 1, 0] rfl) hf
  unfold fX3_playRound at hf
  refine lv_iconst (v := 0) hx hb dX3_playRound_0 (by decide) ?_
  refine lv_istore_n (lv' := [(2, .int 0), (0, .ref hT), (1, .int v1)]) hx hb dX3_playRound_1 rfl hl (by decide) rfl (fun ls hl => ?_)
  refine lv_iconst (v := 0) hx hb dX3_playRound_2 (by decide) ?_
  refine lv_istore_n (lv' := [(3, .int 0), (2, .int 0), (0, .ref hT), (1, .int v1)]) hx hb dX3_playRound_3 rfl hl (by decide) rfl (fun ls hl => ?_)
  exact L4 1000 v1 0 0 T.1 (T.2 1) (T.2 2) _ _ _ hP hD hS (lv_sub hl [2, 3, 1, 0] rfl) hf
set_option maxHeartbeats 4000000 in
set_option maxRecDepth 100000 in
theorem kX3_playTillKnown (l : Launch) (D : va_G) (cy : Nat → ClassId) (hT : Nat) (aT : Nat → Nat) (hG : Nat) (aG : Nat → Nat) (sz : Nat) (T : dk_O) (G : dk_O)  (r : Int32) (oT_I : (Nat → Int32)) (oT_1 : (Nat → Int32)) (oT_2 : (Nat → Int32)) (hf : fX3_playTillKnown T G = some (r, oT_I, oT_1, oT_2)) : dk_MuI l yX3_playTillKnown wsX3_playTillKnown ({ frames := 4, cells := 0, slots := 0, locals := 96 }) D cy [.ref hT] (wSt cy hT aT hG T ++ wNt cy hG aG G) (wSt cy hT aT hG (oT_I, dk_upA (dk_upA T.2 1 oT_1) 2 oT_2) ++ wNt cy hG aG G) sz r := by
  refine Met.ofW (cc := cX3_playTillKnown) (maxL := 2) (ret := (some .int)) (by decide) rfl ?_
  intro p e s m args below meth c s₁ B hml hv
  obtain ⟨rfl, hsz, hP, hK, hD0⟩ := hv
  have hx := B.exec
  have hb := B.bytes
  have hr := B.returns
  have hts := atoms_spec (ws := wsX3_playTillKnown) B.pre
  have hown : s.vm.findClass RX3 = some m.cls := findClass_of_methodNamed B.named
  have hlocks := B.notSynchronized
  subst hsz
  have hD := hD0.self (sz := s.heap.size)
  generalize hAe : va_A (wSt cy hT aT hG T ++ wNt cy hG aG G) s.heap.size = A at hD ⊢
  have hA : ∀ q : Nat, s.heap.size ≤ q → A q := fun q h => by rw [← hAe]; exact Or.inr h
  have hS : va_S A s.heap s.heap [] := va_S.rf
  have hl := lv_entry ([.ref hT]) (n := 2) (Nat.le_of_ble_eq_true rfl)
  rw [lg_entry_eq]
  generalize (lg_sl ([.ref hT]) ++ List.replicate (2 - (lg_sl ([.ref hT])).length) Slot.unset).toArray = ls at hl ⊢
  have hl : lv_has ls 2 [(0, .ref hT)] := hl
  have L2 : ∀ (fu2 : Nat) (x1 : Int32) (T_I : (Nat → Int32)) (T_1 : (Nat → Int32)) (T_2 : (Nat → Int32)) (H : Heap) (locs : List Loc) (ls : Array Slot), va_P D vwCl (wSt cy hT aT hG (T_I, dk_upA (dk_upA T.2 1 T_1) 2 T_2) ++ wNt cy hG aG G) H → va_D A (wSt cy hT aT hG (T_I, dk_upA (dk_upA T.2 1 T_1) 2 T_2) ++ wNt cy hG aG G) → va_S A s.heap H locs → lv_has ls 2 [(0, .ref hT), (1, .int x1)] → fX3_playTillKnown_L2 T G fu2 x1 T_I T_1 T_2 = some (r, oT_I, oT_1, oT_2) → W p l e (headSpec wsX3_playTillKnown ({ frames := 4, cells := 0, slots := 0, locals := 96 })).room s m ([.ref hT]).toArray below meth c H locs 0 0 (MQ below (va_Qi (fun (x : Int32) (_ : Unit) => x = r) (dk_B D (wSt cy hT aT hG (oT_I, dk_upA (dk_upA T.2 1 oT_1) 2 oT_2) ++ wNt cy hG aG G) A) A) ([.ref hT]).toArray s 0 0 A) (F0 m 2 ls []) := by
    intro fu2
    induction fu2 with
    | zero =>
      intro x1 T_I T_1 T_2 H locs ls hP hD hS hl hf
      rw [fX3_playTillKnown_L2] at hf
      cases hf
    | succ fu2 ih2 =>
      intro x1 T_I T_1 T_2 H locs ls hP hD hS hl hf
      rw [fX3_playTillKnown_L2] at hf
      refine lv_iload_n hx hb dX3_playTillKnown_2 rfl (lv_at hl 1 rfl) ?_
      refine lv_bipush (v := 60) hx hb dX3_playTillKnown_3 (by decide) ?_
      refine dk_cge (tgt := 35) hx hb dX3_playTillKnown_5 (by decide) hf (fun hf => ?_) (fun hf => ?_)
      · refine lv_aload_n hx hb dX3_playTillKnown_35 rfl (lv_at hl 0 rfl) ?_
        obtain ⟨r36, k36, hf⟩ := dk_bind hf
        refine dk_ri (va_runV (As := []) (rest := []) ⟨hx, hb, hml, hown, hts⟩ (kX3_isKnown l D cy hT aT hG aG (T_I, dk_upA (dk_upA T.2 1 T_1) 2 T_2) G r36 k36) (cwV 0 hts gX3_playTillKnown_X3_isKnown rfl rfl rfl (by decide +kernel) ⟨Nat.le_of_ble_eq_true rfl, Nat.le_of_ble_eq_true rfl⟩) (dk_preV hK (hP.sub (ws' := wSt cy hT aT hG (T_I, dk_upA (dk_upA T.2 1 T_1) 2 T_2) ++ wNt cy hG aG G) [0, 1, 2, 3, 4, 5, 6] rfl) (ci := 3) (q0 := 0) rfl rfl) rfl rfl hl.1 rfl (lv_room (Nat.le_of_ble_eq_true rfl)) dX3_playTillKnown_36 ⟨Nat.zero_le _, Nat.zero_le _⟩) ?_
        refine dk_ieq (tgt := 47) hx hb dX3_playTillKnown_39 (by decide) hf (fun hf => ?_) (fun hf => ?_)
        · refine lv_bipush (v := (-9)) hx hb dX3_playTillKnown_47 (by decide) ?_
          have e := Option.some.inj hf
          simp only [Prod.mk.injEq] at e
          obtain ⟨e0, e1, e2, e3⟩ := e
          subst e1
          subst e2
          subst e3
          exact W.iret (v := (-9)) hx hb hr (fun t ht hW => ⟨⟨(-9), (), rfl, e0, by rw [ht]; exact hP, hD⟩, hS.F ht⟩) hS.2.2 dX3_playTillKnown_49
        · refine lv_bipush (v := 60) hx hb dX3_playTillKnown_42 (by decide) ?_
          refine lv_goto (tgt := 49) hx hb dX3_playTillKnown_44 (by decide) ?_
          have e := Option.some.inj hf
          simp only [Prod.mk.injEq] at e
          obtain ⟨e0, e1, e2, e3⟩ := e
          subst e1
          subst e2
          subst e3
          exact W.iret (v := 60) hx hb hr (fun t ht hW => ⟨⟨60, (), rfl, e0, by rw [ht]; exact hP, hD⟩, hS.F ht⟩) hS.2.2 dX3_playTillKnown_49
      · refine lv_aload_n hx hb dX3_playTillKnown_8 rfl (lv_at hl 0 rfl) ?_
        obtain ⟨r9, k9, hf⟩ := dk_bind hf
        refine dk_ri (va_runV (As := []) (rest := []) ⟨hx, hb, hml, hown, hts⟩ (kX3_isKnown l D cy hT aT hG aG (T_I, dk_upA (dk_upA T.2 1 T_1) 2 T_2) G r9 k9) (cwV 0 hts gX3_playTillKnown_X3_isKnown rfl rfl rfl (by decide +kernel) ⟨Nat.le_of_ble_eq_true rfl, Nat.le_of_ble_eq_true rfl⟩) (dk_preV hK (hP.sub (ws' := wSt cy hT aT hG (T_I, dk_upA (dk_upA T.2 1 T_1) 2 T_2) ++ wNt cy hG aG G) [0, 1, 2, 3, 4, 5, 6] rfl) (ci := 3) (q0 := 0) rfl rfl) rfl rfl hl.1 rfl (lv_room (Nat.le_of_ble_eq_true rfl)) dX3_playTillKnown_9 ⟨Nat.zero_le _, Nat.zero_le _⟩) ?_
        refine dk_ieq (tgt := 17) hx hb dX3_playTillKnown_12 (by decide) hf (fun hf => ?_) (fun hf => ?_)
        · refine lv_aload_n hx hb dX3_playTillKnown_17 rfl (lv_at hl 0 rfl) ?_
          refine lv_bipush (v := 15) hx hb dX3_playTillKnown_18 (by decide) ?_
          obtain ⟨⟨r20, i20_0, g20_1, g20_2⟩, k20, hf⟩ := dk_bind hf
          dsimp only at hf
          have hPc := hP.sub (ws' := wSt cy hT aT hG (T_I, dk_upA (dk_upA T.2 1 T_1) 2 T_2) ++ wNt cy hG aG G) [0, 1, 2, 3, 4, 5, 6] rfl
          have hDc := hD.sub (ws' := wSt cy hT aT hG (T_I, dk_upA (dk_upA T.2 1 T_1) 2 T_2) ++ wNt cy hG aG G) [0, 1, 2, 3, 4, 5, 6] (by decide) rfl
          have hFc := va_free (wc := wSt cy hT aT hG (T_I, dk_upA (dk_upA T.2 1 T_1) 2 T_2) ++ wNt cy hG aG G) hD hS hA [0, 1, 2, 3, 4, 5, 6] rfl
          refine va_calli (va_runV (As := [.int 15]) (rest := []) ⟨hx, hb, hml, hown, hts⟩ (kX3_playRound l D cy hT aT hG aG H.size (T_I, dk_upA (dk_upA T.2 1 T_1) 2 T_2) G 15 r20 i20_0 g20_1 g20_2 k20) (cwV 1 hts gX3_playTillKnown_X3_playRound rfl rfl rfl (by decide +kernel) ⟨Nat.le_of_ble_eq_true rfl, Nat.le_of_ble_eq_true rfl⟩) (dk_premV hK hPc hDc (ci := 3) (q0 := 0) rfl rfl) rfl rfl hl.1 rfl (lv_room (Nat.le_of_ble_eq_true rfl)) dX3_playTillKnown_20 ⟨Nat.zero_le _, Nat.zero_le _⟩) hS (fun q _ h => hFc q h) hFc (fun xr20 u t H1 locs ht hvm hw hB hz1 hk1 hS => ?_)
          obtain ⟨hP1, hD1⟩ := hB
          rw [ht] at hP1
          rw [hw]
          obtain ⟨hP, hD⟩ := va_join (wr := ([] : List Nat).filterMap (fun i => (wSt cy hT aT hG (T_I, dk_upA (dk_upA T.2 1 T_1) 2 T_2) ++ wNt cy hG aG G)[i]?)) (w1 := wSt cy hT aT hG (i20_0, dk_upA (dk_upA T.2 1 g20_1) 2 g20_2) ++ wNt cy hG aG G) hP hD [0, 1, 2, 3, 4, 5, 6] [] rfl rfl (by decide) (by decide) hk1 hFc hP1 hD1
          generalize H1 = H at hP hS ⊢
          have hP : va_P D vwCl (wSt cy hT aT hG (i20_0, dk_upA (dk_upA T.2 1 g20_1) 2 g20_2) ++ wNt cy hG aG G) H := hP.sub [0, 1, 2, 3, 4, 5, 6] rfl
          have hD : va_D A (wSt cy hT aT hG (i20_0, dk_upA (dk_upA T.2 1 g20_1) 2 g20_2) ++ wNt cy hG aG G) := hD.sub [0, 1, 2, 3, 4, 5, 6] (by decide) rfl
          refine dk_ine (tgt := 29) hx hb dX3_playTillKnown_23 (by decide) hf (fun hf => ?_) (fun hf => ?_)
          · refine lv_iinc (v := x1 + 1) (lv' := [(1, .int (x1 + 1)), (0, .ref hT)]) hx hb dX3_playTillKnown_29 hl (k := 1) rfl rfl (by decide) rfl (fun ls hl => ?_)
            refine lv_goto (tgt := 2) hx hb dX3_playTillKnown_32 (by decide) ?_
            exact ih2 (x1 + 1) i20_0 g20_1 g20_2 _ _ _ hP hD hS (lv_sub hl [1, 0] rfl) hf
          · refine lv_bipush (v := (-9)) hx hb dX3_playTillKnown_26 (by decide) ?_
            have e := Option.some.inj hf
            simp only [Prod.mk.injEq] at e
            obtain ⟨e0, e1, e2, e3⟩ := e
            subst e1
            subst e2
            subst e3
            exact W.iret (v := (-9)) hx hb hr (fun t ht hW => ⟨⟨(-9), (), rfl, e0, by rw [ht]; exact hP, hD⟩, hS.F ht⟩) hS.2.2 dX3_playTillKnown_28
        · refine lv_iload_n hx hb dX3_playTillKnown_15 rfl (lv_at hl 1 rfl) ?_
          have e := Option.some.inj hf
          simp only [Prod.mk.injEq] at e
          obtain ⟨e0, e1, e2, e3⟩ := e
          subst e1
          subst e2
          subst e3
          exact W.iret (v := x1) hx hb hr (fun t ht hW => ⟨⟨x1, (), rfl, e0, by rw [ht]; exact hP, hD⟩, hS.F ht⟩) hS.2.2 dX3_playTillKnown_16
  unfold fX3_playTillKnown at hf
  refine lv_iconst (v := 0) hx hb dX3_playTillKnown_0 (by decide) ?_
  refine lv_istore_n (lv' := [(1, .int 0), (0, .ref hT)]) hx hb dX3_playTillKnown_1 rfl hl (by decide) rfl (fun ls hl => ?_)
  exact L2 1000 0 T.1 (T.2 1) (T.2 2) _ _ _ hP hD hS (lv_sub hl [1, 0] rfl) hf
set_option maxHeartbeats 4000000 in
set_option maxRecDepth 100000 in
theorem kX3_playIfAnyLives (l : Launch) (D : va_G) (cy : Nat → ClassId) (hT : Nat) (aT : Nat → Nat) (hG : Nat) (aG : Nat → Nat) (sz : Nat) (T : dk_O) (G : dk_O)  (r : Int32) (oT_I : (Nat → Int32)) (oT_1 : (Nat → Int32)) (oT_2 : (Nat → Int32)) (hf : fX3_playIfAnyLives T G = some (r, oT_I, oT_1, oT_2)) : dk_MuI l yX3_playIfAnyLives wsX3_playIfAnyLives ({ frames := 4, cells := 0, slots := 0, locals := 96 }) D cy [.ref hT] (wSt cy hT aT hG T ++ wNt cy hG aG G) (wSt cy hT aT hG (oT_I, dk_upA (dk_upA T.2 1 oT_1) 2 oT_2) ++ wNt cy hG aG G) sz r := by
  refine Met.ofW (cc := cX3_playIfAnyLives) (maxL := 1) (ret := (some .boolean)) (by decide) rfl ?_
  intro p e s m args below meth c s₁ B hml hv
  obtain ⟨rfl, hsz, hP, hK, hD0⟩ := hv
  have hx := B.exec
  have hb := B.bytes
  have hr := B.returns
  have hts := atoms_spec (ws := wsX3_playIfAnyLives) B.pre
  have hown : s.vm.findClass RX3 = some m.cls := findClass_of_methodNamed B.named
  have hlocks := B.notSynchronized
  subst hsz
  have hD := hD0.self (sz := s.heap.size)
  generalize hAe : va_A (wSt cy hT aT hG T ++ wNt cy hG aG G) s.heap.size = A at hD ⊢
  have hA : ∀ q : Nat, s.heap.size ≤ q → A q := fun q h => by rw [← hAe]; exact Or.inr h
  have hS : va_S A s.heap s.heap [] := va_S.rf
  have hl := lv_entry ([.ref hT]) (n := 1) (Nat.le_of_ble_eq_true rfl)
  rw [lg_entry_eq]
  generalize (lg_sl ([.ref hT]) ++ List.replicate (1 - (lg_sl ([.ref hT])).length) Slot.unset).toArray = ls at hl ⊢
  have hl : lv_has ls 1 [(0, .ref hT)] := hl
  unfold fX3_playIfAnyLives at hf
  refine lv_aload_n hx hb dX3_playIfAnyLives_0 rfl (lv_at hl 0 rfl) ?_
  obtain ⟨r1, k1, hf⟩ := dk_bind hf
  refine dk_ri (va_runV (As := []) (rest := []) ⟨hx, hb, hml, hown, hts⟩ (kX3_living l D cy hT aT hG aG T G r1 k1) (cwV 0 hts gX3_playIfAnyLives_X3_living rfl rfl rfl (by decide +kernel) ⟨Nat.le_of_ble_eq_true rfl, Nat.le_of_ble_eq_true rfl⟩) (dk_preV hK (hP.sub (ws' := wSt cy hT aT hG T ++ wNt cy hG aG G) [0, 1, 2, 3, 4, 5, 6] rfl) (ci := 3) (q0 := 0) rfl rfl) rfl rfl hl.1 rfl (lv_room (Nat.le_of_ble_eq_true rfl)) dX3_playIfAnyLives_1 ⟨Nat.zero_le _, Nat.zero_le _⟩) ?_
  refine dk_ine (tgt := 9) hx hb dX3_playIfAnyLives_4 (by decide) hf (fun hf => ?_) (fun hf => ?_)
  · refine lv_aload_n hx hb dX3_playIfAnyLives_9 rfl (lv_at hl 0 rfl) ?_
    refine lv_bipush (v := 15) hx hb dX3_playIfAnyLives_10 (by decide) ?_
    obtain ⟨⟨r12, i12_0, g12_1, g12_2⟩, k12, hf⟩ := dk_bind hf
    dsimp only at hf
    have hPc := hP.sub (ws' := wSt cy hT aT hG T ++ wNt cy hG aG G) [0, 1, 2, 3, 4, 5, 6] rfl
    have hDc := hD.sub (ws' := wSt cy hT aT hG T ++ wNt cy hG aG G) [0, 1, 2, 3, 4, 5, 6] (by decide) rfl
    have hFc := va_free (wc := wSt cy hT aT hG T ++ wNt cy hG aG G) hD hS hA [0, 1, 2, 3, 4, 5, 6] rfl
    refine va_calli (va_runV (As := [.int 15]) (rest := []) ⟨hx, hb, hml, hown, hts⟩ (kX3_playRound l D cy hT aT hG aG s.heap.size T G 15 r12 i12_0 g12_1 g12_2 k12) (cwV 1 hts gX3_playIfAnyLives_X3_playRound rfl rfl rfl (by decide +kernel) ⟨Nat.le_of_ble_eq_true rfl, Nat.le_of_ble_eq_true rfl⟩) (dk_premV hK hPc hDc (ci := 3) (q0 := 0) rfl rfl) rfl rfl hl.1 rfl (lv_room (Nat.le_of_ble_eq_true rfl)) dX3_playIfAnyLives_12 ⟨Nat.zero_le _, Nat.zero_le _⟩) hS (fun q _ h => hFc q h) hFc (fun xr12 u t H1 locs ht hvm hw hB hz1 hk1 hS => ?_)
    obtain ⟨hP1, hD1⟩ := hB
    rw [ht] at hP1
    rw [hw]
    obtain ⟨hP, hD⟩ := va_join (wr := ([] : List Nat).filterMap (fun i => (wSt cy hT aT hG T ++ wNt cy hG aG G)[i]?)) (w1 := wSt cy hT aT hG (i12_0, dk_upA (dk_upA T.2 1 g12_1) 2 g12_2) ++ wNt cy hG aG G) hP hD [0, 1, 2, 3, 4, 5, 6] [] rfl rfl (by decide) (by decide) hk1 hFc hP1 hD1
    generalize H1 = H at hP hS ⊢
    have hP : va_P D vwCl (wSt cy hT aT hG (i12_0, dk_upA (dk_upA T.2 1 g12_1) 2 g12_2) ++ wNt cy hG aG G) H := hP.sub [0, 1, 2, 3, 4, 5, 6] rfl
    have hD : va_D A (wSt cy hT aT hG (i12_0, dk_upA (dk_upA T.2 1 g12_1) 2 g12_2) ++ wNt cy hG aG G) := hD.sub [0, 1, 2, 3, 4, 5, 6] (by decide) rfl
    refine lv_pop hx hb dX3_playIfAnyLives_15 rfl ?_
    refine lv_iconst (v := 1) hx hb dX3_playIfAnyLives_16 (by decide) ?_
    have e := Option.some.inj hf
    simp only [Prod.mk.injEq] at e
    obtain ⟨e0, e1, e2, e3⟩ := e
    subst e1
    subst e2
    subst e3
    exact W.zret (v := 1) hx hb hr rfl (fun t ht hW => ⟨⟨1, (), rfl, e0, by rw [ht]; exact hP, hD⟩, hS.F ht⟩) hS.2.2 dX3_playIfAnyLives_17
  · refine lv_iconst (v := 0) hx hb dX3_playIfAnyLives_7 (by decide) ?_
    have e := Option.some.inj hf
    simp only [Prod.mk.injEq] at e
    obtain ⟨e0, e1, e2, e3⟩ := e
    subst e1
    subst e2
    subst e3
    exact W.zret (v := 0) hx hb hr rfl (fun t ht hW => ⟨⟨0, (), rfl, e0, by rw [ht]; exact hP, hD⟩, hS.F ht⟩) hS.2.2 dX3_playIfAnyLives_8
theorem iX3_allows_X3 : ∀ w ∈ wsX30, w ∈ wsX3_allows := fun _ h => List.mem_cons_of_mem _ (List.mem_append_left _ (List.mem_append_right _ h))
set_option maxHeartbeats 4000000 in
set_option maxRecDepth 100000 in
theorem kX3_allows (l : Launch) (D : va_G) (cy : Nat → ClassId) (hT : Nat) (aT : Nat → Nat) (hG : Nat) (aG : Nat → Nat) (sz : Nat) (T : dk_O) (G : dk_O) (v1 : Int32) (v2 : Int32) (v3 : Int32) (r : Int32) (oT_I : (Nat → Int32)) (oT_1 : (Nat → Int32)) (oT_2 : (Nat → Int32)) (hf : fX3_allows T G v1 v2 v3 = some (r, oT_I, oT_1, oT_2)) : dk_MuI l yX3_allows wsX3_allows ({ frames := 5, cells := 0, slots := 0, locals := 116 }) D cy [.ref hT, .int v1, .int v2, .int v3] (wSt cy hT aT hG T ++ wNt cy hG aG G) (wSt cy hT aT hG (oT_I, dk_upA (dk_upA T.2 1 oT_1) 2 oT_2) ++ wNt cy hG aG G) sz r := by
  refine Met.ofW (cc := cX3_allows) (maxL := 4) (ret := (some .boolean)) (by decide) rfl ?_
  intro p e s m args below meth c s₁ B hml hv
  obtain ⟨rfl, hsz, hP, hK, hD0⟩ := hv
  have hx := B.exec
  have hb := B.bytes
  have hr := B.returns
  have hts := atoms_spec (ws := wsX3_allows) B.pre
  have hown : s.vm.findClass RX3 = some m.cls := findClass_of_methodNamed B.named
  have hlocks := B.notSynchronized
  subst hsz
  have hD := hD0.self (sz := s.heap.size)
  generalize hAe : va_A (wSt cy hT aT hG T ++ wNt cy hG aG G) s.heap.size = A at hD ⊢
  have hA : ∀ q : Nat, s.heap.size ≤ q → A q := fun q h => by rw [← hAe]; exact Or.inr h
  have hS : va_S A s.heap s.heap [] := va_S.rf
  have hl := lv_entry ([.ref hT, .int v1, .int v2, .int v3]) (n := 4) (Nat.le_of_ble_eq_true rfl)
  rw [lg_entry_eq]
  generalize (lg_sl ([.ref hT, .int v1, .int v2, .int v3]) ++ List.replicate (4 - (lg_sl ([.ref hT, .int v1, .int v2, .int v3])).length) Slot.unset).toArray = ls at hl ⊢
  have hl : lv_has ls 4 [(0, .ref hT), (1, .int v1), (2, .int v2), (3, .int v3)] := hl
  unfold fX3_allows at hf
  refine lv_iload_n hx hb dX3_allows_0 rfl (lv_at hl 1 rfl) ?_
  by_cases q1_1 : v1 = 1
  · have hf := dk_pos hf q1_1
    refine lv_tableIn (tgt := 44) hx hb dX3_allows_1 (by rw [q1_1]; decide) (by rw [q1_1]; decide) (by rw [q1_1]; rfl) (by decide) ?_
    refine lv_aload_n hx hb dX3_allows_44 rfl (lv_at hl 0 rfl) ?_
    refine lv_iload_n hx hb dX3_allows_45 rfl (lv_at hl 2 rfl) ?_
    refine lv_iload_n hx hb dX3_allows_46 rfl (lv_at hl 3 rfl) ?_
    obtain ⟨⟨r47, i47_0, g47_1, g47_2⟩, k47, hf⟩ := dk_bind hf
    dsimp only at hf
    have hPc := hP.sub (ws' := wSt cy hT aT hG T ++ wNt cy hG aG G) [0, 1, 2, 3, 4, 5, 6] rfl
    have hDc := hD.sub (ws' := wSt cy hT aT hG T ++ wNt cy hG aG G) [0, 1, 2, 3, 4, 5, 6] (by decide) rfl
    have hFc := va_free (wc := wSt cy hT aT hG T ++ wNt cy hG aG G) hD hS hA [0, 1, 2, 3, 4, 5, 6] rfl
    refine va_calli (va_runV (As := [.int v2, .int v3]) (rest := []) ⟨hx, hb, hml, hown, hts⟩ (kX3_goIfPossible l D cy hT aT hG aG s.heap.size T G v2 v3 r47 i47_0 g47_1 g47_2 k47) (cwV 2 hts gX3_allows_X3_goIfPossible rfl rfl rfl (by decide +kernel) ⟨Nat.le_of_ble_eq_true rfl, Nat.le_of_ble_eq_true rfl⟩) (dk_premV hK hPc hDc (ci := 3) (q0 := 0) rfl rfl) rfl rfl hl.1 rfl (lv_room (Nat.le_of_ble_eq_true rfl)) dX3_allows_47 ⟨Nat.zero_le _, Nat.zero_le _⟩) hS (fun q _ h => hFc q h) hFc (fun xr47 u t H1 locs ht hvm hw hB hz1 hk1 hS => ?_)
    obtain ⟨hP1, hD1⟩ := hB
    rw [ht] at hP1
    rw [hw]
    obtain ⟨hP, hD⟩ := va_join (wr := ([] : List Nat).filterMap (fun i => (wSt cy hT aT hG T ++ wNt cy hG aG G)[i]?)) (w1 := wSt cy hT aT hG (i47_0, dk_upA (dk_upA T.2 1 g47_1) 2 g47_2) ++ wNt cy hG aG G) hP hD [0, 1, 2, 3, 4, 5, 6] [] rfl rfl (by decide) (by decide) hk1 hFc hP1 hD1
    generalize H1 = H at hP hS ⊢
    have hP : va_P D vwCl (wSt cy hT aT hG (i47_0, dk_upA (dk_upA T.2 1 g47_1) 2 g47_2) ++ wNt cy hG aG G) H := hP.sub [0, 1, 2, 3, 4, 5, 6] rfl
    have hD : va_D A (wSt cy hT aT hG (i47_0, dk_upA (dk_upA T.2 1 g47_1) 2 g47_2) ++ wNt cy hG aG G) := hD.sub [0, 1, 2, 3, 4, 5, 6] (by decide) rfl
    obtain ⟨q50, hf⟩ := dk_guardT hf
    have e := Option.some.inj hf
    simp only [Prod.mk.injEq] at e
    obtain ⟨e0, e1, e2, e3⟩ := e
    subst e1
    subst e2
    subst e3
    exact W.zret (v := r47) hx hb hr (dk_zn q50) (fun t ht hW => ⟨⟨r47, (), rfl, e0, by rw [ht]; exact hP, hD⟩, hS.F ht⟩) hS.2.2 dX3_allows_50
  have hf := dk_neg hf q1_1
  by_cases q1_2 : v1 = 2
  · have hf := dk_pos hf q1_2
    refine lv_tableIn (tgt := 51) hx hb dX3_allows_1 (by rw [q1_2]; decide) (by rw [q1_2]; decide) (by rw [q1_2]; rfl) (by decide) ?_
    refine lv_iload_n hx hb dX3_allows_51 rfl (lv_at hl 2 rfl) ?_
    refine dk_ine (tgt := 70) hx hb dX3_allows_52 (by decide) hf (fun hf => ?_) (fun hf => ?_)
    · refine lv_iconst (v := 0) hx hb dX3_allows_70 (by decide) ?_
      have e := Option.some.inj hf
      simp only [Prod.mk.injEq] at e
      obtain ⟨e0, e1, e2, e3⟩ := e
      subst e1
      subst e2
      subst e3
      exact W.zret (v := 0) hx hb hr rfl (fun t ht hW => ⟨⟨0, (), rfl, e0, by rw [ht]; exact hP, hD⟩, hS.F ht⟩) hS.2.2 dX3_allows_71
    · refine lv_iload_n hx hb dX3_allows_55 rfl (lv_at hl 3 rfl) ?_
      refine dk_ine (tgt := 70) hx hb dX3_allows_56 (by decide) hf (fun hf => ?_) (fun hf => ?_)
      · refine lv_iconst (v := 0) hx hb dX3_allows_70 (by decide) ?_
        have e := Option.some.inj hf
        simp only [Prod.mk.injEq] at e
        obtain ⟨e0, e1, e2, e3⟩ := e
        subst e1
        subst e2
        subst e3
        exact W.zret (v := 0) hx hb hr rfl (fun t ht hW => ⟨⟨0, (), rfl, e0, by rw [ht]; exact hP, hD⟩, hS.F ht⟩) hS.2.2 dX3_allows_71
      · refine lv_aload_n hx hb dX3_allows_59 rfl (lv_at hl 0 rfl) ?_
        obtain ⟨⟨r60, i60_0, g60_1, g60_2⟩, k60, hf⟩ := dk_bind hf
        dsimp only at hf
        have hPc := hP.sub (ws' := wSt cy hT aT hG T ++ wNt cy hG aG G) [0, 1, 2, 3, 4, 5, 6] rfl
        have hDc := hD.sub (ws' := wSt cy hT aT hG T ++ wNt cy hG aG G) [0, 1, 2, 3, 4, 5, 6] (by decide) rfl
        have hFc := va_free (wc := wSt cy hT aT hG T ++ wNt cy hG aG G) hD hS hA [0, 1, 2, 3, 4, 5, 6] rfl
        refine va_calli (va_runV (As := []) (rest := []) ⟨hx, hb, hml, hown, hts⟩ (kX3_playIfAnyLives l D cy hT aT hG aG s.heap.size T G r60 i60_0 g60_1 g60_2 k60) (cwV 0 hts gX3_allows_X3_playIfAnyLives rfl rfl rfl (by decide +kernel) ⟨Nat.le_of_ble_eq_true rfl, Nat.le_of_ble_eq_true rfl⟩) (dk_premV hK hPc hDc (ci := 3) (q0 := 0) rfl rfl) rfl rfl hl.1 rfl (lv_room (Nat.le_of_ble_eq_true rfl)) dX3_allows_60 ⟨Nat.zero_le _, Nat.zero_le _⟩) hS (fun q _ h => hFc q h) hFc (fun xr60 u t H1 locs ht hvm hw hB hz1 hk1 hS => ?_)
        obtain ⟨hP1, hD1⟩ := hB
        rw [ht] at hP1
        rw [hw]
        obtain ⟨hP, hD⟩ := va_join (wr := ([] : List Nat).filterMap (fun i => (wSt cy hT aT hG T ++ wNt cy hG aG G)[i]?)) (w1 := wSt cy hT aT hG (i60_0, dk_upA (dk_upA T.2 1 g60_1) 2 g60_2) ++ wNt cy hG aG G) hP hD [0, 1, 2, 3, 4, 5, 6] [] rfl rfl (by decide) (by decide) hk1 hFc hP1 hD1
        generalize H1 = H at hP hS ⊢
        have hP : va_P D vwCl (wSt cy hT aT hG (i60_0, dk_upA (dk_upA T.2 1 g60_1) 2 g60_2) ++ wNt cy hG aG G) H := hP.sub [0, 1, 2, 3, 4, 5, 6] rfl
        have hD : va_D A (wSt cy hT aT hG (i60_0, dk_upA (dk_upA T.2 1 g60_1) 2 g60_2) ++ wNt cy hG aG G) := hD.sub [0, 1, 2, 3, 4, 5, 6] (by decide) rfl
        refine dk_ieq (tgt := 70) hx hb dX3_allows_63 (by decide) hf (fun hf => ?_) (fun hf => ?_)
        · refine lv_iconst (v := 0) hx hb dX3_allows_70 (by decide) ?_
          have e := Option.some.inj hf
          simp only [Prod.mk.injEq] at e
          obtain ⟨e0, e1, e2, e3⟩ := e
          subst e1
          subst e2
          subst e3
          exact W.zret (v := 0) hx hb hr rfl (fun t ht hW => ⟨⟨0, (), rfl, e0, by rw [ht]; exact hP, hD⟩, hS.F ht⟩) hS.2.2 dX3_allows_71
        · refine lv_iconst (v := 1) hx hb dX3_allows_66 (by decide) ?_
          refine lv_goto (tgt := 71) hx hb dX3_allows_67 (by decide) ?_
          have e := Option.some.inj hf
          simp only [Prod.mk.injEq] at e
          obtain ⟨e0, e1, e2, e3⟩ := e
          subst e1
          subst e2
          subst e3
          exact W.zret (v := 1) hx hb hr rfl (fun t ht hW => ⟨⟨1, (), rfl, e0, by rw [ht]; exact hP, hD⟩, hS.F ht⟩) hS.2.2 dX3_allows_71
  have hf := dk_neg hf q1_2
  by_cases q1_3 : v1 = 3
  · have hf := dk_pos hf q1_3
    refine lv_tableIn (tgt := 72) hx hb dX3_allows_1 (by rw [q1_3]; decide) (by rw [q1_3]; decide) (by rw [q1_3]; rfl) (by decide) ?_
    refine lv_iload_n hx hb dX3_allows_72 rfl (lv_at hl 2 rfl) ?_
    refine dk_ine (tgt := 88) hx hb dX3_allows_73 (by decide) hf (fun hf => ?_) (fun hf => ?_)
    · refine lv_iconst (v := 0) hx hb dX3_allows_88 (by decide) ?_
      have e := Option.some.inj hf
      simp only [Prod.mk.injEq] at e
      obtain ⟨e0, e1, e2, e3⟩ := e
      subst e1
      subst e2
      subst e3
      exact W.zret (v := 0) hx hb hr rfl (fun t ht hW => ⟨⟨0, (), rfl, e0, by rw [ht]; exact hP, hD⟩, hS.F ht⟩) hS.2.2 dX3_allows_89
    · refine lv_aload_n hx hb dX3_allows_76 rfl (lv_at hl 0 rfl) ?_
      obtain ⟨r77, k77, hf⟩ := dk_bind hf
      refine dk_ri (va_runV (As := []) (rest := []) ⟨hx, hb, hml, hown, hts⟩ (kX3_living l D cy hT aT hG aG T G r77 k77) (cwV 0 hts gX3_allows_X3_living rfl rfl rfl (by decide +kernel) ⟨Nat.le_of_ble_eq_true rfl, Nat.le_of_ble_eq_true rfl⟩) (dk_preV hK (hP.sub (ws' := wSt cy hT aT hG T ++ wNt cy hG aG G) [0, 1, 2, 3, 4, 5, 6] rfl) (ci := 3) (q0 := 0) rfl rfl) rfl rfl hl.1 rfl (lv_room (Nat.le_of_ble_eq_true rfl)) dX3_allows_77 ⟨Nat.zero_le _, Nat.zero_le _⟩) ?_
      refine lv_iload_n hx hb dX3_allows_80 rfl (lv_at hl 3 rfl) ?_
      refine dk_cne (tgt := 88) hx hb dX3_allows_81 (by decide) hf (fun hf => ?_) (fun hf => ?_)
      · refine lv_iconst (v := 0) hx hb dX3_allows_88 (by decide) ?_
        have e := Option.some.inj hf
        simp only [Prod.mk.injEq] at e
        obtain ⟨e0, e1, e2, e3⟩ := e
        subst e1
        subst e2
        subst e3
        exact W.zret (v := 0) hx hb hr rfl (fun t ht hW => ⟨⟨0, (), rfl, e0, by rw [ht]; exact hP, hD⟩, hS.F ht⟩) hS.2.2 dX3_allows_89
      · refine lv_iconst (v := 1) hx hb dX3_allows_84 (by decide) ?_
        refine lv_goto (tgt := 89) hx hb dX3_allows_85 (by decide) ?_
        have e := Option.some.inj hf
        simp only [Prod.mk.injEq] at e
        obtain ⟨e0, e1, e2, e3⟩ := e
        subst e1
        subst e2
        subst e3
        exact W.zret (v := 1) hx hb hr rfl (fun t ht hW => ⟨⟨1, (), rfl, e0, by rw [ht]; exact hP, hD⟩, hS.F ht⟩) hS.2.2 dX3_allows_89
  have hf := dk_neg hf q1_3
  by_cases q1_4 : v1 = 4
  · have hf := dk_pos hf q1_4
    refine lv_tableIn (tgt := 90) hx hb dX3_allows_1 (by rw [q1_4]; decide) (by rw [q1_4]; decide) (by rw [q1_4]; rfl) (by decide) ?_
    refine lv_iload_n hx hb dX3_allows_90 rfl (lv_at hl 2 rfl) ?_
    refine dk_ine (tgt := 109) hx hb dX3_allows_91 (by decide) hf (fun hf => ?_) (fun hf => ?_)
    · refine lv_iconst (v := 0) hx hb dX3_allows_109 (by decide) ?_
      have e := Option.some.inj hf
      simp only [Prod.mk.injEq] at e
      obtain ⟨e0, e1, e2, e3⟩ := e
      subst e1
      subst e2
      subst e3
      exact W.zret (v := 0) hx hb hr rfl (fun t ht hW => ⟨⟨0, (), rfl, e0, by rw [ht]; exact hP, hD⟩, hS.F ht⟩) hS.2.2 dX3_allows_110
    · refine lv_aload_n hx hb dX3_allows_94 rfl (lv_at hl 0 rfl) ?_
      obtain ⟨r95, k95, hf⟩ := dk_bind hf
      refine dk_ri (va_runV (As := []) (rest := []) ⟨hx, hb, hml, hown, hts⟩ (kX3_mayBe l D cy hT aT hG aG T G r95 k95) (cwV 0 hts gX3_allows_X3_mayBe rfl rfl rfl (by decide +kernel) ⟨Nat.le_of_ble_eq_true rfl, Nat.le_of_ble_eq_true rfl⟩) (dk_preV hK (hP.sub (ws' := wSt cy hT aT hG T ++ wNt cy hG aG G) [0, 1, 2, 3, 4, 5, 6] rfl) (ci := 3) (q0 := 0) rfl rfl) rfl rfl hl.1 rfl (lv_room (Nat.le_of_ble_eq_true rfl)) dX3_allows_95 ⟨Nat.zero_le _, Nat.zero_le _⟩) ?_
      refine lv_iload_n hx hb dX3_allows_98 rfl (lv_at hl 3 rfl) ?_
      obtain ⟨r99, k99, hf⟩ := dk_bind hf
      refine dk_ri (va_runSN (As := [.int r95, .int v3]) (rest := []) ⟨hx, hb, hml, hown, hts⟩ (kX5_holds l D cy r95 v3 r99 k99) ⟨va_cnB 2 hts gX3_allows_X5_holds_n85 rfl rfl rfl (hK.2 (.methodLinkNest "DarkPlace$Stand" 85 ⟨"DarkPlace", "holds", "(II)Z"⟩ "DarkPlace") (List.mem_of_getElem? (i := 21) rfl)) (hts (.initialized RX5) (List.mem_of_getElem? (i := 51) rfl)) (by decide +kernel) ⟨Nat.le_of_ble_eq_true rfl, Nat.le_of_ble_eq_true rfl⟩, (hts (.static yX5_holds) (List.mem_of_getElem? (i := 58) rfl)), trivial⟩ (dk_preS hK (hP.sub (ws' := []) [] rfl)) rfl rfl hl.1 rfl (lv_room (Nat.le_of_ble_eq_true rfl)) dX3_allows_99 ⟨Nat.zero_le _, Nat.zero_le _⟩) ?_
      refine dk_ieq (tgt := 109) hx hb dX3_allows_102 (by decide) hf (fun hf => ?_) (fun hf => ?_)
      · refine lv_iconst (v := 0) hx hb dX3_allows_109 (by decide) ?_
        have e := Option.some.inj hf
        simp only [Prod.mk.injEq] at e
        obtain ⟨e0, e1, e2, e3⟩ := e
        subst e1
        subst e2
        subst e3
        exact W.zret (v := 0) hx hb hr rfl (fun t ht hW => ⟨⟨0, (), rfl, e0, by rw [ht]; exact hP, hD⟩, hS.F ht⟩) hS.2.2 dX3_allows_110
      · refine lv_iconst (v := 1) hx hb dX3_allows_105 (by decide) ?_
        refine lv_goto (tgt := 110) hx hb dX3_allows_106 (by decide) ?_
        have e := Option.some.inj hf
        simp only [Prod.mk.injEq] at e
        obtain ⟨e0, e1, e2, e3⟩ := e
        subst e1
        subst e2
        subst e3
        exact W.zret (v := 1) hx hb hr rfl (fun t ht hW => ⟨⟨1, (), rfl, e0, by rw [ht]; exact hP, hD⟩, hS.F ht⟩) hS.2.2 dX3_allows_110
  have hf := dk_neg hf q1_4
  by_cases q1_5 : v1 = 5
  · have hf := dk_pos hf q1_5
    refine lv_tableIn (tgt := 111) hx hb dX3_allows_1 (by rw [q1_5]; decide) (by rw [q1_5]; decide) (by rw [q1_5]; rfl) (by decide) ?_
    refine lv_aload_n hx hb dX3_allows_111 rfl (lv_at hl 0 rfl) ?_
    refine lv_iload_n hx hb dX3_allows_112 rfl (lv_at hl 2 rfl) ?_
    obtain ⟨r113, k113, hf⟩ := dk_bind hf
    refine dk_ri (va_runV (As := [.int v2]) (rest := []) ⟨hx, hb, hml, hown, hts⟩ (kX3_lives l D cy hT aT hG aG T G v2 r113 k113) (cwV 1 hts gX3_allows_X3_lives rfl rfl rfl (by decide +kernel) ⟨Nat.le_of_ble_eq_true rfl, Nat.le_of_ble_eq_true rfl⟩) (dk_preV hK (hP.sub (ws' := wSt cy hT aT hG T ++ wNt cy hG aG G) [0, 1, 2, 3, 4, 5, 6] rfl) (ci := 3) (q0 := 0) rfl rfl) rfl rfl hl.1 rfl (lv_room (Nat.le_of_ble_eq_true rfl)) dX3_allows_113 ⟨Nat.zero_le _, Nat.zero_le _⟩) ?_
    refine dk_ieq (tgt := 132) hx hb dX3_allows_116 (by decide) hf (fun hf => ?_) (fun hf => ?_)
    · refine lv_iconst (v := 0) hx hb dX3_allows_132 (by decide) ?_
      have e := Option.some.inj hf
      simp only [Prod.mk.injEq] at e
      obtain ⟨e0, e1, e2, e3⟩ := e
      subst e1
      subst e2
      subst e3
      exact W.zret (v := 0) hx hb hr rfl (fun t ht hW => ⟨⟨0, (), rfl, e0, by rw [ht]; exact hP, hD⟩, hS.F ht⟩) hS.2.2 dX3_allows_133
    · refine lv_aload_n hx hb dX3_allows_119 rfl (lv_at hl 0 rfl) ?_
      refine lv_iload_n hx hb dX3_allows_120 rfl (lv_at hl 2 rfl) ?_
      obtain ⟨r121, k121, hf⟩ := dk_bind hf
      refine dk_ri (va_runV (As := [.int v2]) (rest := []) ⟨hx, hb, hml, hown, hts⟩ (kX3_placeOf l D cy hT aT hG aG T G v2 r121 k121) (cwV 1 hts gX3_allows_X3_placeOf rfl rfl rfl (by decide +kernel) ⟨Nat.le_of_ble_eq_true rfl, Nat.le_of_ble_eq_true rfl⟩) (dk_preV hK (hP.sub (ws' := wSt cy hT aT hG T ++ wNt cy hG aG G) [0, 1, 2, 3, 4, 5, 6] rfl) (ci := 3) (q0 := 0) rfl rfl) rfl rfl hl.1 rfl (lv_room (Nat.le_of_ble_eq_true rfl)) dX3_allows_121 ⟨Nat.zero_le _, Nat.zero_le _⟩) ?_
      refine lv_iload_n hx hb dX3_allows_124 rfl (lv_at hl 3 rfl) ?_
      refine dk_cne (tgt := 132) hx hb dX3_allows_125 (by decide) hf (fun hf => ?_) (fun hf => ?_)
      · refine lv_iconst (v := 0) hx hb dX3_allows_132 (by decide) ?_
        have e := Option.some.inj hf
        simp only [Prod.mk.injEq] at e
        obtain ⟨e0, e1, e2, e3⟩ := e
        subst e1
        subst e2
        subst e3
        exact W.zret (v := 0) hx hb hr rfl (fun t ht hW => ⟨⟨0, (), rfl, e0, by rw [ht]; exact hP, hD⟩, hS.F ht⟩) hS.2.2 dX3_allows_133
      · refine lv_iconst (v := 1) hx hb dX3_allows_128 (by decide) ?_
        refine lv_goto (tgt := 133) hx hb dX3_allows_129 (by decide) ?_
        have e := Option.some.inj hf
        simp only [Prod.mk.injEq] at e
        obtain ⟨e0, e1, e2, e3⟩ := e
        subst e1
        subst e2
        subst e3
        exact W.zret (v := 1) hx hb hr rfl (fun t ht hW => ⟨⟨1, (), rfl, e0, by rw [ht]; exact hP, hD⟩, hS.F ht⟩) hS.2.2 dX3_allows_133
  have hf := dk_neg hf q1_5
  by_cases q1_6 : v1 = 6
  · have hf := dk_pos hf q1_6
    refine lv_tableIn (tgt := 134) hx hb dX3_allows_1 (by rw [q1_6]; decide) (by rw [q1_6]; decide) (by rw [q1_6]; rfl) (by decide) ?_
    refine lv_aload_n hx hb dX3_allows_134 rfl (lv_at hl 0 rfl) ?_
    refine va_get (D := D) (ci := 3) (v := .ref hG) (C := RX3) (T := TX3) (N := 9) hx hb hts iX3_allows_X3 hown hK.1 hP 0 rfl rfl 0 (by decide) (hts (.fieldLink RX3 37 "DarkPlace$Stand" "net" "LDarkPlace$Net;") (List.mem_of_getElem? (i := 1) rfl)) (fun _ h9 => h9) rfl dX3_allows_135 ?_
    refine lv_iload_n hx hb dX3_allows_138 rfl (lv_at hl 2 rfl) ?_
    obtain ⟨r139, k139, hf⟩ := dk_bind hf
    refine dk_ri (va_runV (As := [.int v2]) (rest := []) ⟨hx, hb, hml, hown, hts⟩ (kX1_isEdge l D cy hG aG G v2 r139 k139) (cwV 1 hts gX3_allows_X1_isEdge rfl rfl rfl (by decide +kernel) ⟨Nat.le_of_ble_eq_true rfl, Nat.le_of_ble_eq_true rfl⟩) (dk_preV hK (hP.sub (ws' := wNt cy hG aG G) [3, 4, 5, 6] rfl) (ci := 1) (q0 := 0) rfl rfl) rfl rfl hl.1 rfl (lv_room (Nat.le_of_ble_eq_true rfl)) dX3_allows_139 ⟨Nat.zero_le _, Nat.zero_le _⟩) ?_
    refine dk_ieq (tgt := 158) hx hb dX3_allows_142 (by decide) hf (fun hf => ?_) (fun hf => ?_)
    · refine lv_iconst (v := 0) hx hb dX3_allows_158 (by decide) ?_
      have e := Option.some.inj hf
      simp only [Prod.mk.injEq] at e
      obtain ⟨e0, e1, e2, e3⟩ := e
      subst e1
      subst e2
      subst e3
      exact W.zret (v := 0) hx hb hr rfl (fun t ht hW => ⟨⟨0, (), rfl, e0, by rw [ht]; exact hP, hD⟩, hS.F ht⟩) hS.2.2 dX3_allows_159
    · refine lv_aload_n hx hb dX3_allows_145 rfl (lv_at hl 0 rfl) ?_
      refine lv_iload_n hx hb dX3_allows_146 rfl (lv_at hl 2 rfl) ?_
      obtain ⟨r147, k147, hf⟩ := dk_bind hf
      refine dk_ri (va_runV (As := [.int v2]) (rest := []) ⟨hx, hb, hml, hown, hts⟩ (kX3_stateOf l D cy hT aT hG aG T G v2 r147 k147) (cwV 1 hts gX3_allows_X3_stateOf rfl rfl rfl (by decide +kernel) ⟨Nat.le_of_ble_eq_true rfl, Nat.le_of_ble_eq_true rfl⟩) (dk_preV hK (hP.sub (ws' := wSt cy hT aT hG T ++ wNt cy hG aG G) [0, 1, 2, 3, 4, 5, 6] rfl) (ci := 3) (q0 := 0) rfl rfl) rfl rfl hl.1 rfl (lv_room (Nat.le_of_ble_eq_true rfl)) dX3_allows_147 ⟨Nat.zero_le _, Nat.zero_le _⟩) ?_
      refine lv_iload_n hx hb dX3_allows_150 rfl (lv_at hl 3 rfl) ?_
      refine dk_cne (tgt := 158) hx hb dX3_allows_151 (by decide) hf (fun hf => ?_) (fun hf => ?_)
      · refine lv_iconst (v := 0) hx hb dX3_allows_158 (by decide) ?_
        have e := Option.some.inj hf
        simp only [Prod.mk.injEq] at e
        obtain ⟨e0, e1, e2, e3⟩ := e
        subst e1
        subst e2
        subst e3
        exact W.zret (v := 0) hx hb hr rfl (fun t ht hW => ⟨⟨0, (), rfl, e0, by rw [ht]; exact hP, hD⟩, hS.F ht⟩) hS.2.2 dX3_allows_159
      · refine lv_iconst (v := 1) hx hb dX3_allows_154 (by decide) ?_
        refine lv_goto (tgt := 159) hx hb dX3_allows_155 (by decide) ?_
        have e := Option.some.inj hf
        simp only [Prod.mk.injEq] at e
        obtain ⟨e0, e1, e2, e3⟩ := e
        subst e1
        subst e2
        subst e3
        exact W.zret (v := 1) hx hb hr rfl (fun t ht hW => ⟨⟨1, (), rfl, e0, by rw [ht]; exact hP, hD⟩, hS.F ht⟩) hS.2.2 dX3_allows_159
  have hf := dk_neg hf q1_6
  by_cases q1_7 : v1 = 7
  · have hf := dk_pos hf q1_7
    refine lv_tableIn (tgt := 160) hx hb dX3_allows_1 (by rw [q1_7]; decide) (by rw [q1_7]; decide) (by rw [q1_7]; rfl) (by decide) ?_
    refine lv_iload_n hx hb dX3_allows_160 rfl (lv_at hl 2 rfl) ?_
    refine dk_ine (tgt := 176) hx hb dX3_allows_161 (by decide) hf (fun hf => ?_) (fun hf => ?_)
    · refine lv_iconst (v := 0) hx hb dX3_allows_176 (by decide) ?_
      have e := Option.some.inj hf
      simp only [Prod.mk.injEq] at e
      obtain ⟨e0, e1, e2, e3⟩ := e
      subst e1
      subst e2
      subst e3
      exact W.zret (v := 0) hx hb hr rfl (fun t ht hW => ⟨⟨0, (), rfl, e0, by rw [ht]; exact hP, hD⟩, hS.F ht⟩) hS.2.2 dX3_allows_177
    · refine lv_aload_n hx hb dX3_allows_164 rfl (lv_at hl 0 rfl) ?_
      refine lv_iload_n hx hb dX3_allows_165 rfl (lv_at hl 3 rfl) ?_
      obtain ⟨r166, k166, hf⟩ := dk_bind hf
      refine dk_ri (va_runV (As := [.int v3]) (rest := []) ⟨hx, hb, hml, hown, hts⟩ (kX3_isKnownAt l D cy hT aT hG aG T G v3 r166 k166) (cwV 1 hts gX3_allows_X3_isKnownAt rfl rfl rfl (by decide +kernel) ⟨Nat.le_of_ble_eq_true rfl, Nat.le_of_ble_eq_true rfl⟩) (dk_preV hK (hP.sub (ws' := wSt cy hT aT hG T ++ wNt cy hG aG G) [0, 1, 2, 3, 4, 5, 6] rfl) (ci := 3) (q0 := 0) rfl rfl) rfl rfl hl.1 rfl (lv_room (Nat.le_of_ble_eq_true rfl)) dX3_allows_166 ⟨Nat.zero_le _, Nat.zero_le _⟩) ?_
      refine dk_ieq (tgt := 176) hx hb dX3_allows_169 (by decide) hf (fun hf => ?_) (fun hf => ?_)
      · refine lv_iconst (v := 0) hx hb dX3_allows_176 (by decide) ?_
        have e := Option.some.inj hf
        simp only [Prod.mk.injEq] at e
        obtain ⟨e0, e1, e2, e3⟩ := e
        subst e1
        subst e2
        subst e3
        exact W.zret (v := 0) hx hb hr rfl (fun t ht hW => ⟨⟨0, (), rfl, e0, by rw [ht]; exact hP, hD⟩, hS.F ht⟩) hS.2.2 dX3_allows_177
      · refine lv_iconst (v := 1) hx hb dX3_allows_172 (by decide) ?_
        refine lv_goto (tgt := 177) hx hb dX3_allows_173 (by decide) ?_
        have e := Option.some.inj hf
        simp only [Prod.mk.injEq] at e
        obtain ⟨e0, e1, e2, e3⟩ := e
        subst e1
        subst e2
        subst e3
        exact W.zret (v := 1) hx hb hr rfl (fun t ht hW => ⟨⟨1, (), rfl, e0, by rw [ht]; exact hP, hD⟩, hS.F ht⟩) hS.2.2 dX3_allows_177
  have hf := dk_neg hf q1_7
  refine lv_tableOut (tgt := 178) hx hb dX3_allows_1 (dk_tabOut 1 7 (by decide) (fun k h1 h2 => by
    rcases (show k = 1 ∨ k = 2 ∨ k = 3 ∨ k = 4 ∨ k = 5 ∨ k = 6 ∨ k = 7 by omega) with rfl | rfl | rfl | rfl | rfl | rfl | rfl
    · exact q1_1
    · exact q1_2
    · exact q1_3
    · exact q1_4
    · exact q1_5
    · exact q1_6
    · exact q1_7)) (by decide) ?_
  refine lv_iconst (v := 0) hx hb dX3_allows_178 (by decide) ?_
  have e := Option.some.inj hf
  simp only [Prod.mk.injEq] at e
  obtain ⟨e0, e1, e2, e3⟩ := e
  subst e1
  subst e2
  subst e3
  exact W.zret (v := 0) hx hb hr rfl (fun t ht hW => ⟨⟨0, (), rfl, e0, by rw [ht]; exact hP, hD⟩, hS.F ht⟩) hS.2.2 dX3_allows_179
