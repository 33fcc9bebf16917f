-- printed by wip/gen (walks of the bytecode)
theorem iX3_begin_X1 : ∀ w ∈ wsX10, w ∈ wsX3_begin := fun _ h => List.mem_cons_of_mem _ (List.mem_append_right _ h)
theorem iX3_begin_X3 : ∀ w ∈ wsX30, w ∈ wsX3_begin := fun _ h => List.mem_cons_of_mem _ (List.mem_append_left _ (List.mem_append_right _ h))
set_option maxHeartbeats 4000000 in
set_option maxRecDepth 100000 in
theorem kX3_begin (l : Launch) (D : va_G) (cy : Nat → ClassId) (hT : Nat) (aT : Nat → Nat) (hG : Nat) (aG : Nat → Nat) (sz : Nat) (T : dk_O) (G : dk_O) (v1 : Int32) (v2 : Int32) (oT_I : (Nat → Int32)) (oT_1 : (Nat → Int32)) (oT_2 : (Nat → Int32)) (hf : fX3_begin T G v1 v2 = some (oT_I, oT_1, oT_2)) : dk_MuV l yX3_begin wsX3_begin ({ frames := 1, cells := 0, slots := 0, locals := 23 }) D cy [.ref hT, .int v1, .int v2] (wSt cy hT aT hG T ++ wNt cy hG aG G) (wSt cy hT aT hG (oT_I, dk_upA (dk_upA T.2 1 oT_1) 2 oT_2) ++ wNt cy hG aG G) sz := by
  refine Met.ofW (cc := cX3_begin) (maxL := 3) (ret := none) (by decide) rfl ?_
  intro p e s m args below meth c s₁ B hml hv
  obtain ⟨rfl, hsz, hP, hK, hD0⟩ := hv
  have hx := B.exec
  have hb := B.bytes
  have hr := B.returns
  have hts := atoms_spec (ws := wsX3_begin) B.pre
  have hown : s.vm.findClass RX3 = some m.cls := findClass_of_methodNamed B.named
  have hlocks := B.notSynchronized
  subst hsz
  have hD := hD0.self (sz := s.heap.size)
  generalize hAe : va_A (wSt cy hT aT hG T ++ wNt cy hG aG G) s.heap.size = A at hD ⊢
  have hA : ∀ q : Nat, s.heap.size ≤ q → A q := fun q h => by rw [← hAe]; exact Or.inr h
  have hS : va_S A s.heap s.heap [] := va_S.rf
  have hl := lv_entry ([.ref hT, .int v1, .int v2]) (n := 3) (Nat.le_of_ble_eq_true rfl)
  rw [lg_entry_eq]
  generalize (lg_sl ([.ref hT, .int v1, .int v2]) ++ List.replicate (3 - (lg_sl ([.ref hT, .int v1, .int v2])).length) Slot.unset).toArray = ls at hl ⊢
  have hl : lv_has ls 3 [(0, .ref hT), (1, .int v1), (2, .int v2)] := hl
  unfold fX3_begin at hf
  refine lv_aload_n hx hb dX3_begin_0 rfl (lv_at hl 0 rfl) ?_
  refine lv_iload_n hx hb dX3_begin_1 rfl (lv_at hl 1 rfl) ?_
  refine lv_iconst (v := 4) hx hb dX3_begin_2 (by decide) ?_
  refine va_mmin hx hb (hml.trans hl.1.symm) hown (hts (.methodLink RX3 49 Lib.Math.min.name) (List.mem_of_getElem? (i := 1) rfl)) (hts (.static Lib.Math.min.name) (List.mem_of_getElem? (i := 2) rfl)) (hts (.initialized "java/lang/Math") (List.mem_of_getElem? (i := 3) rfl)) (hts (.code Lib.Math.min.name Lib.Math.min.code 2 (some .int)) (List.mem_of_getElem? (i := 4) rfl)) (Nat.le_of_ble_eq_true rfl) (Nat.le_of_ble_eq_true rfl) (Nat.zero_le _) (Nat.zero_le _) dX3_begin_3 ?_
  refine va_put (D := D) (ci := 3) (v := .int (if 4 < v1 then 4 else v1)) (ty := .int) (C := RX3) (T := TX3) (N := 9) hx hb hts iX3_begin_X3 tyX3 tyX3_ok nmX3 hown hK.1 hP hD hS 0 rfl rfl 3 (by decide) (hts (.fieldLink RX3 18 "DarkPlace$Stand" "searchers" "I") (List.mem_of_getElem? (i := 5) rfl)) (fun _ h9 => h9) rfl (by decide +kernel) rfl rfl (Nat.le_of_ble_eq_true rfl) dX3_begin_6 (fun H locs hP hD hS => ?_)
  have hP : va_P D vwCl (wSt cy hT aT hG (upd T.1 3 (if 4 < v1 then 4 else v1), T.2) ++ wNt cy hG aG G) H := hP
  have hD : va_D A (wSt cy hT aT hG (upd T.1 3 (if 4 < v1 then 4 else v1), T.2) ++ wNt cy hG aG G) := hD
  refine lv_aload_n hx hb dX3_begin_9 rfl (lv_at hl 0 rfl) ?_
  refine lv_iload_n hx hb dX3_begin_10 rfl (lv_at hl 2 rfl) ?_
  refine va_put (D := D) (ci := 3) (v := .int v2) (ty := .int) (C := RX3) (T := TX3) (N := 9) hx hb hts iX3_begin_X3 tyX3 tyX3_ok nmX3 hown hK.1 hP hD hS 0 rfl rfl 4 (by decide) (hts (.fieldLink RX3 22 "DarkPlace$Stand" "hole" "I") (List.mem_of_getElem? (i := 6) rfl)) (fun _ h9 => h9) rfl (by decide +kernel) rfl rfl (Nat.le_of_ble_eq_true rfl) dX3_begin_11 (fun H locs hP hD hS => ?_)
  have hP : va_P D vwCl (wSt cy hT aT hG (upd (upd T.1 3 (if 4 < v1 then 4 else v1)) 4 v2, T.2) ++ wNt cy hG aG G) H := hP
  have hD : va_D A (wSt cy hT aT hG (upd (upd T.1 3 (if 4 < v1 then 4 else v1)) 4 v2, T.2) ++ wNt cy hG aG G) := hD
  refine lv_aload_n hx hb dX3_begin_14 rfl (lv_at hl 0 rfl) ?_
  refine va_get (D := D) (ci := 3) (v := .ref (aT 1)) (C := RX3) (T := TX3) (N := 9) hx hb hts iX3_begin_X3 hown hK.1 hP 0 rfl rfl 1 (by decide) (hts (.fieldLink RX3 9 "DarkPlace$Stand" "at" "[I") (List.mem_of_getElem? (i := 7) rfl)) (fun _ h9 => h9) rfl dX3_begin_15 ?_
  refine lv_aload_n hx hb dX3_begin_18 rfl (lv_at hl 0 rfl) ?_
  refine va_get (D := D) (ci := 3) (v := .ref hG) (C := RX3) (T := TX3) (N := 9) hx hb hts iX3_begin_X3 hown hK.1 hP 0 rfl rfl 0 (by decide) (hts (.fieldLink RX3 37 "DarkPlace$Stand" "net" "LDarkPlace$Net;") (List.mem_of_getElem? (i := 8) rfl)) (fun _ h9 => h9) rfl dX3_begin_19 ?_
  refine va_getN (D := D) (ci := 1) (v := .int (G.1 1)) (C := RX1) (T := TX1) (N := 9) hx hb hts iX3_begin_X1 hown hK.1 hP 3 rfl rfl 1 (by decide) (va_Nw.use rfl (hK.2 (.fieldLinkNest "DarkPlace$Stand" 55 "DarkPlace$Net" "home" "I" "DarkPlace") (List.mem_of_getElem? (i := 3) rfl))) (fun _ h9 => h9) rfl dX3_begin_22 ?_
  obtain ⟨g25_0, k25, hf⟩ := dk_bind hf
  have hPc := hP.sub (ws' := wRw cy (aT 1) 4 (T.2 1)) [1] rfl
  have hDc := hD.sub (ws' := wRw cy (aT 1) 4 (T.2 1)) [1] (by decide) rfl
  have hFc := va_free (wc := wRw cy (aT 1) 4 (T.2 1)) hD hS hA [1] rfl
  refine va_callv (va_runS (As := [.ref (aT 1), .int (G.1 1)]) (rest := []) ⟨hx, hb, hml, hown, hts⟩ (kJ7_fill_53178 l D cy (aT 1) 4 H.size (T.2 1) (G.1 1) g25_0 k25) (va_cwS 2 hts gX3_begin_J7_fill_53178 rfl rfl rfl (by decide +kernel) ⟨Nat.le_of_ble_eq_true rfl, Nat.le_of_ble_eq_true rfl⟩) (dk_premS hK hPc hDc) rfl rfl hl.1 rfl (lv_room (Nat.le_of_ble_eq_true rfl)) dX3_begin_25 ⟨Nat.zero_le _, Nat.zero_le _⟩) hS (fun q _ h => hFc q h) hFc (fun u t H1 locs ht hvm hw hB hz1 hk1 hS => ?_)
  obtain ⟨hP1, hD1⟩ := hB
  rw [ht] at hP1
  obtain ⟨hP, hD⟩ := va_join (wr := ([0, 2, 3, 4, 5, 6] : List Nat).filterMap (fun i => (wSt cy hT aT hG (upd (upd T.1 3 (if 4 < v1 then 4 else v1)) 4 v2, T.2) ++ wNt cy hG aG G)[i]?)) (w1 := wRw cy (aT 1) 4 g25_0) hP hD [1] [0, 2, 3, 4, 5, 6] rfl rfl (by decide) (by decide) hk1 hFc hP1 hD1
  generalize H1 = H at hP hS ⊢
  have hP : va_P D vwCl (wSt cy hT aT hG (upd (upd T.1 3 (if 4 < v1 then 4 else v1)) 4 v2, dk_upA T.2 1 g25_0) ++ wNt cy hG aG G) H := hP.sub [0, 6, 1, 2, 3, 4, 5] rfl
  have hD : va_D A (wSt cy hT aT hG (upd (upd T.1 3 (if 4 < v1 then 4 else v1)) 4 v2, dk_upA T.2 1 g25_0) ++ wNt cy hG aG G) := hD.sub [0, 6, 1, 2, 3, 4, 5] (by decide) rfl
  refine lv_aload_n hx hb dX3_begin_28 rfl (lv_at hl 0 rfl) ?_
  refine va_get (D := D) (ci := 3) (v := .ref (aT 2)) (C := RX3) (T := TX3) (N := 9) hx hb hts iX3_begin_X3 hown hK.1 hP 0 rfl rfl 2 (by decide) (hts (.fieldLink RX3 15 "DarkPlace$Stand" "out" "[I") (List.mem_of_getElem? (i := 9) rfl)) (fun _ h9 => h9) rfl dX3_begin_29 ?_
  refine lv_bipush (v := (-9)) hx hb dX3_begin_32 (by decide) ?_
  obtain ⟨g34_0, k34, hf⟩ := dk_bind hf
  have hPc := hP.sub (ws' := wRw cy (aT 2) 4 (T.2 2)) [2] rfl
  have hDc := hD.sub (ws' := wRw cy (aT 2) 4 (T.2 2)) [2] (by decide) rfl
  have hFc := va_free (wc := wRw cy (aT 2) 4 (T.2 2)) hD hS hA [2] rfl
  refine va_callv (va_runS (As := [.ref (aT 2), .int (-9)]) (rest := []) ⟨hx, hb, hml, hown, hts⟩ (kJ7_fill_53178 l D cy (aT 2) 4 H.size (T.2 2) (-9) g34_0 k34) (va_cwS 2 hts gX3_begin_J7_fill_53178 rfl rfl rfl (by decide +kernel) ⟨Nat.le_of_ble_eq_true rfl, Nat.le_of_ble_eq_true rfl⟩) (dk_premS hK hPc hDc) rfl rfl hl.1 rfl (lv_room (Nat.le_of_ble_eq_true rfl)) dX3_begin_34 ⟨Nat.zero_le _, Nat.zero_le _⟩) hS (fun q _ h => hFc q h) hFc (fun u t H1 locs ht hvm hw hB hz1 hk1 hS => ?_)
  obtain ⟨hP1, hD1⟩ := hB
  rw [ht] at hP1
  obtain ⟨hP, hD⟩ := va_join (wr := ([0, 1, 3, 4, 5, 6] : List Nat).filterMap (fun i => (wSt cy hT aT hG (upd (upd T.1 3 (if 4 < v1 then 4 else v1)) 4 v2, dk_upA T.2 1 g25_0) ++ wNt cy hG aG G)[i]?)) (w1 := wRw cy (aT 2) 4 g34_0) hP hD [2] [0, 1, 3, 4, 5, 6] rfl rfl (by decide) (by decide) hk1 hFc hP1 hD1
  generalize H1 = H at hP hS ⊢
  have hP : va_P D vwCl (wSt cy hT aT hG (upd (upd T.1 3 (if 4 < v1 then 4 else v1)) 4 v2, dk_upA (dk_upA T.2 1 g25_0) 2 g34_0) ++ wNt cy hG aG G) H := hP.sub [0, 1, 6, 2, 3, 4, 5] rfl
  have hD : va_D A (wSt cy hT aT hG (upd (upd T.1 3 (if 4 < v1 then 4 else v1)) 4 v2, dk_upA (dk_upA T.2 1 g25_0) 2 g34_0) ++ wNt cy hG aG G) := hD.sub [0, 1, 6, 2, 3, 4, 5] (by decide) rfl
  refine lv_aload_n hx hb dX3_begin_37 rfl (lv_at hl 0 rfl) ?_
  refine lv_iconst (v := 0) hx hb dX3_begin_38 (by decide) ?_
  refine va_put (D := D) (ci := 3) (v := .int 0) (ty := .int) (C := RX3) (T := TX3) (N := 9) hx hb hts iX3_begin_X3 tyX3 tyX3_ok nmX3 hown hK.1 hP hD hS 0 rfl rfl 5 (by decide) (hts (.fieldLink RX3 25 "DarkPlace$Stand" "moves" "I") (List.mem_of_getElem? (i := 10) rfl)) (fun _ h9 => h9) rfl (by decide +kernel) rfl rfl (Nat.le_of_ble_eq_true rfl) dX3_begin_39 (fun H locs hP hD hS => ?_)
  have hP : va_P D vwCl (wSt cy hT aT hG (upd (upd (upd T.1 3 (if 4 < v1 then 4 else v1)) 4 v2) 5 0, dk_upA (dk_upA T.2 1 g25_0) 2 g34_0) ++ wNt cy hG aG G) H := hP
  have hD : va_D A (wSt cy hT aT hG (upd (upd (upd T.1 3 (if 4 < v1 then 4 else v1)) 4 v2) 5 0, dk_upA (dk_upA T.2 1 g25_0) 2 g34_0) ++ wNt cy hG aG G) := hD
  refine lv_aload_n hx hb dX3_begin_42 rfl (lv_at hl 0 rfl) ?_
  refine lv_aload_n hx hb dX3_begin_43 rfl (lv_at hl 0 rfl) ?_
  refine va_get (D := D) (ci := 3) (v := .ref hG) (C := RX3) (T := TX3) (N := 9) hx hb hts iX3_begin_X3 hown hK.1 hP 0 rfl rfl 0 (by decide) (hts (.fieldLink RX3 37 "DarkPlace$Stand" "net" "LDarkPlace$Net;") (List.mem_of_getElem? (i := 8) rfl)) (fun _ h9 => h9) rfl dX3_begin_44 ?_
  obtain ⟨r47, k47, hf⟩ := dk_bind hf
  refine dk_ri (va_runV (As := []) (rest := [.ref hT]) ⟨hx, hb, hml, hown, hts⟩ (kX1_allEdges l D cy hG aG G r47 k47) (cwV 0 hts gX3_begin_X1_allEdges rfl rfl rfl (by decide +kernel) ⟨Nat.le_of_ble_eq_true rfl, Nat.le_of_ble_eq_true rfl⟩) (dk_preV hK (hP.sub (ws' := wNt cy hG aG G) [3, 4, 5, 6] rfl) (ci := 1) (q0 := 0) rfl rfl) rfl rfl hl.1 rfl (lv_room (Nat.le_of_ble_eq_true rfl)) dX3_begin_47 ⟨Nat.zero_le _, Nat.zero_le _⟩) ?_
  refine va_put (D := D) (ci := 3) (v := .int r47) (ty := .int) (C := RX3) (T := TX3) (N := 9) hx hb hts iX3_begin_X3 tyX3 tyX3_ok nmX3 hown hK.1 hP hD hS 0 rfl rfl 6 (by decide) (hts (.fieldLink RX3 28 "DarkPlace$Stand" "unseen" "I") (List.mem_of_getElem? (i := 11) rfl)) (fun _ h9 => h9) rfl (by decide +kernel) rfl rfl (Nat.le_of_ble_eq_true rfl) dX3_begin_50 (fun H locs hP hD hS => ?_)
  have hP : va_P D vwCl (wSt cy hT aT hG (upd (upd (upd (upd T.1 3 (if 4 < v1 then 4 else v1)) 4 v2) 5 0) 6 r47, dk_upA (dk_upA T.2 1 g25_0) 2 g34_0) ++ wNt cy hG aG G) H := hP
  have hD : va_D A (wSt cy hT aT hG (upd (upd (upd (upd T.1 3 (if 4 < v1 then 4 else v1)) 4 v2) 5 0) 6 r47, dk_upA (dk_upA T.2 1 g25_0) 2 g34_0) ++ wNt cy hG aG G) := hD
  refine lv_aload_n hx hb dX3_begin_53 rfl (lv_at hl 0 rfl) ?_
  refine lv_iconst (v := 0) hx hb dX3_begin_54 (by decide) ?_
  refine va_put (D := D) (ci := 3) (v := .int 0) (ty := .int) (C := RX3) (T := TX3) (N := 9) hx hb hts iX3_begin_X3 tyX3 tyX3_ok nmX3 hown hK.1 hP hD hS 0 rfl rfl 7 (by decide) (hts (.fieldLink RX3 31 "DarkPlace$Stand" "safe" "I") (List.mem_of_getElem? (i := 12) rfl)) (fun _ h9 => h9) rfl (by decide +kernel) rfl rfl (Nat.le_of_ble_eq_true rfl) dX3_begin_55 (fun H locs hP hD hS => ?_)
  have hP : va_P D vwCl (wSt cy hT aT hG (upd (upd (upd (upd (upd T.1 3 (if 4 < v1 then 4 else v1)) 4 v2) 5 0) 6 r47) 7 0, dk_upA (dk_upA T.2 1 g25_0) 2 g34_0) ++ wNt cy hG aG G) H := hP
  have hD : va_D A (wSt cy hT aT hG (upd (upd (upd (upd (upd T.1 3 (if 4 < v1 then 4 else v1)) 4 v2) 5 0) 6 r47) 7 0, dk_upA (dk_upA T.2 1 g25_0) 2 g34_0) ++ wNt cy hG aG G) := hD
  refine lv_aload_n hx hb dX3_begin_58 rfl (lv_at hl 0 rfl) ?_
  refine lv_iconst (v := 1) hx hb dX3_begin_59 (by decide) ?_
  refine lv_aload_n hx hb dX3_begin_60 rfl (lv_at hl 0 rfl) ?_
  refine va_get (D := D) (ci := 3) (v := .ref hG) (C := RX3) (T := TX3) (N := 9) hx hb hts iX3_begin_X3 hown hK.1 hP 0 rfl rfl 0 (by decide) (hts (.fieldLink RX3 37 "DarkPlace$Stand" "net" "LDarkPlace$Net;") (List.mem_of_getElem? (i := 8) rfl)) (fun _ h9 => h9) rfl dX3_begin_61 ?_
  refine va_getN (D := D) (ci := 1) (v := .int (G.1 1)) (C := RX1) (T := TX1) (N := 9) hx hb hts iX3_begin_X1 hown hK.1 hP 3 rfl rfl 1 (by decide) (va_Nw.use rfl (hK.2 (.fieldLinkNest "DarkPlace$Stand" 55 "DarkPlace$Net" "home" "I" "DarkPlace") (List.mem_of_getElem? (i := 3) rfl))) (fun _ h9 => h9) rfl dX3_begin_64 ?_
  refine lv_ishl hx hb dX3_begin_67 ?_
  refine va_put (D := D) (ci := 3) (v := .int ((1 : Int32) <<< ((G.1 1) &&& 31))) (ty := .int) (C := RX3) (T := TX3) (N := 9) hx hb hts iX3_begin_X3 tyX3 tyX3_ok nmX3 hown hK.1 hP hD hS 0 rfl rfl 8 (by decide) (hts (.fieldLink RX3 34 "DarkPlace$Stand" "visited" "I") (List.mem_of_getElem? (i := 13) rfl)) (fun _ h9 => h9) rfl (by decide +kernel) rfl rfl (Nat.le_of_ble_eq_true rfl) dX3_begin_68 (fun H locs hP hD hS => ?_)
  have hP : va_P D vwCl (wSt cy hT aT hG (upd (upd (upd (upd (upd (upd T.1 3 (if 4 < v1 then 4 else v1)) 4 v2) 5 0) 6 r47) 7 0) 8 ((1 : Int32) <<< ((G.1 1) &&& 31)), dk_upA (dk_upA T.2 1 g25_0) 2 g34_0) ++ wNt cy hG aG G) H := hP
  have hD : va_D A (wSt cy hT aT hG (upd (upd (upd (upd (upd (upd T.1 3 (if 4 < v1 then 4 else v1)) 4 v2) 5 0) 6 r47) 7 0) 8 ((1 : Int32) <<< ((G.1 1) &&& 31)), dk_upA (dk_upA T.2 1 g25_0) 2 g34_0) ++ wNt cy hG aG G) := hD
  have e := Option.some.inj hf
  simp only [Prod.mk.injEq] at e
  obtain ⟨e0, e1, e2⟩ := e
  subst e0
  subst e1
  subst e2
  exact W.vret hx hb hr (fun t ht hW => ⟨⟨(), rfl, trivial, by rw [ht]; exact hP, hD⟩, hS.F ht⟩) hS.2.2 dX3_begin_71
theorem iX3_become_X3 : ∀ w ∈ wsX30, w ∈ wsX3_become := fun _ h => List.mem_cons_of_mem _ (List.mem_append_right _ h)
set_option maxHeartbeats 4000000 in
set_option maxRecDepth 100000 in
theorem kX3_become (l : Launch) (D : va_G) (cy : Nat → ClassId) (hT : Nat) (aT : Nat → Nat) (gT : Nat) (hU : Nat) (aU : Nat → Nat) (gU : Nat) (sz : Nat) (T : dk_O) (U : dk_O)  (oT_I : (Nat → Int32)) (oT_1 : (Nat → Int32)) (oT_2 : (Nat → Int32)) (hf : fX3_become T U = some (oT_I, oT_1, oT_2)) : dk_MuV l yX3_become wsX3_become ({ frames := 0, cells := 0, slots := 0, locals := 0 }) D cy [.ref hT, .ref hU] (wSt cy hT aT gT T ++ wSt cy hU aU gU U) (wSt cy hT aT gT (oT_I, dk_upA (dk_upA T.2 1 oT_1) 2 oT_2) ++ wSt cy hU aU gU U) sz := by
  refine Met.ofW (cc := cX3_become) (maxL := 3) (ret := none) (by decide) rfl ?_
  intro p e s m args below meth c s₁ B hml hv
  obtain ⟨rfl, hsz, hP, hK, hD0⟩ := hv
  have hx := B.exec
  have hb := B.bytes
  have hr := B.returns
  have hts := atoms_spec (ws := wsX3_become) B.pre
  have hown : s.vm.findClass RX3 = some m.cls := findClass_of_methodNamed B.named
  have hlocks := B.notSynchronized
  subst hsz
  have hD := hD0.self (sz := s.heap.size)
  generalize hAe : va_A (wSt cy hT aT gT T ++ wSt cy hU aU gU U) s.heap.size = A at hD ⊢
  have hA : ∀ q : Nat, s.heap.size ≤ q → A q := fun q h => by rw [← hAe]; exact Or.inr h
  have hS : va_S A s.heap s.heap [] := va_S.rf
  have hl := lv_entry ([.ref hT, .ref hU]) (n := 3) (Nat.le_of_ble_eq_true rfl)
  rw [lg_entry_eq]
  generalize (lg_sl ([.ref hT, .ref hU]) ++ List.replicate (3 - (lg_sl ([.ref hT, .ref hU])).length) Slot.unset).toArray = ls at hl ⊢
  have hl : lv_has ls 3 [(0, .ref hT), (1, .ref hU)] := hl
  have L2 : ∀ (fu2 : Nat) (x2 : Int32) (T_I : (Nat → Int32)) (T_1 : (Nat → Int32)) (T_2 : (Nat → Int32)) (H : Heap) (locs : List Loc) (ls : Array Slot), va_P D vwCl (wSt cy hT aT gT (T_I, dk_upA (dk_upA T.2 1 T_1) 2 T_2) ++ wSt cy hU aU gU U) H → va_D A (wSt cy hT aT gT (T_I, dk_upA (dk_upA T.2 1 T_1) 2 T_2) ++ wSt cy hU aU gU U) → va_S A s.heap H locs → lv_has ls 3 [(0, .ref hT), (1, .ref hU), (2, .int x2)] → fX3_become_L2 T U fu2 x2 T_I T_1 T_2 = some (oT_I, oT_1, oT_2) → W p l e (headSpec wsX3_become ({ frames := 0, cells := 0, slots := 0, locals := 0 })).room s m ([.ref hT, .ref hU]).toArray below meth c H locs 0 0 (MQ below (va_Qv (fun (_ : Unit) => True) (dk_B D (wSt cy hT aT gT (oT_I, dk_upA (dk_upA T.2 1 oT_1) 2 oT_2) ++ wSt cy hU aU gU U) A) A) ([.ref hT, .ref hU]).toArray s 0 0 A) (F0 m 2 ls []) := by
    intro fu2
    induction fu2 with
    | zero =>
      intro x2 T_I T_1 T_2 H locs ls hP hD hS hl hf
      rw [fX3_become_L2] at hf
      cases hf
    | succ fu2 ih2 =>
      intro x2 T_I T_1 T_2 H locs ls hP hD hS hl hf
      rw [fX3_become_L2] at hf
      refine lv_iload_n hx hb dX3_become_2 rfl (lv_at hl 2 rfl) ?_
      refine lv_iconst (v := 4) hx hb dX3_become_3 (by decide) ?_
      refine dk_cge (tgt := 37) hx hb dX3_become_4 (by decide) hf (fun hf => ?_) (fun hf => ?_)
      · refine lv_aload_n hx hb dX3_become_37 rfl (lv_at hl 0 rfl) ?_
        refine lv_aload_n hx hb dX3_become_38 rfl (lv_at hl 1 rfl) ?_
        refine va_get (D := D) (ci := 3) (v := .int (U.1 3)) (C := RX3) (T := TX3) (N := 9) hx hb hts iX3_become_X3 hown hK.1 hP 3 rfl rfl 3 (by decide) (hts (.fieldLink RX3 18 "DarkPlace$Stand" "searchers" "I") (List.mem_of_getElem? (i := 3) rfl)) (fun _ h9 => h9) rfl dX3_become_39 ?_
        refine va_put (D := D) (ci := 3) (v := .int (U.1 3)) (ty := .int) (C := RX3) (T := TX3) (N := 9) hx hb hts iX3_become_X3 tyX3 tyX3_ok nmX3 hown hK.1 hP hD hS 0 rfl rfl 3 (by decide) (hts (.fieldLink RX3 18 "DarkPlace$Stand" "searchers" "I") (List.mem_of_getElem? (i := 3) rfl)) (fun _ h9 => h9) rfl (by decide +kernel) rfl rfl (Nat.le_of_ble_eq_true rfl) dX3_become_42 (fun H locs hP hD hS => ?_)
        have hP : va_P D vwCl (wSt cy hT aT gT (upd T_I 3 (U.1 3), dk_upA (dk_upA T.2 1 T_1) 2 T_2) ++ wSt cy hU aU gU U) H := hP
        have hD : va_D A (wSt cy hT aT gT (upd T_I 3 (U.1 3), dk_upA (dk_upA T.2 1 T_1) 2 T_2) ++ wSt cy hU aU gU U) := hD
        refine lv_aload_n hx hb dX3_become_45 rfl (lv_at hl 0 rfl) ?_
        refine lv_aload_n hx hb dX3_become_46 rfl (lv_at hl 1 rfl) ?_
        refine va_get (D := D) (ci := 3) (v := .int (U.1 4)) (C := RX3) (T := TX3) (N := 9) hx hb hts iX3_become_X3 hown hK.1 hP 3 rfl rfl 4 (by decide) (hts (.fieldLink RX3 22 "DarkPlace$Stand" "hole" "I") (List.mem_of_getElem? (i := 4) rfl)) (fun _ h9 => h9) rfl dX3_become_47 ?_
        refine va_put (D := D) (ci := 3) (v := .int (U.1 4)) (ty := .int) (C := RX3) (T := TX3) (N := 9) hx hb hts iX3_become_X3 tyX3 tyX3_ok nmX3 hown hK.1 hP hD hS 0 rfl rfl 4 (by decide) (hts (.fieldLink RX3 22 "DarkPlace$Stand" "hole" "I") (List.mem_of_getElem? (i := 4) rfl)) (fun _ h9 => h9) rfl (by decide +kernel) rfl rfl (Nat.le_of_ble_eq_true rfl) dX3_become_50 (fun H locs hP hD hS => ?_)
        have hP : va_P D vwCl (wSt cy hT aT gT (upd (upd T_I 3 (U.1 3)) 4 (U.1 4), dk_upA (dk_upA T.2 1 T_1) 2 T_2) ++ wSt cy hU aU gU U) H := hP
        have hD : va_D A (wSt cy hT aT gT (upd (upd T_I 3 (U.1 3)) 4 (U.1 4), dk_upA (dk_upA T.2 1 T_1) 2 T_2) ++ wSt cy hU aU gU U) := hD
        refine lv_aload_n hx hb dX3_become_53 rfl (lv_at hl 0 rfl) ?_
        refine lv_aload_n hx hb dX3_become_54 rfl (lv_at hl 1 rfl) ?_
        refine va_get (D := D) (ci := 3) (v := .int (U.1 5)) (C := RX3) (T := TX3) (N := 9) hx hb hts iX3_become_X3 hown hK.1 hP 3 rfl rfl 5 (by decide) (hts (.fieldLink RX3 25 "DarkPlace$Stand" "moves" "I") (List.mem_of_getElem? (i := 5) rfl)) (fun _ h9 => h9) rfl dX3_become_55 ?_
        refine va_put (D := D) (ci := 3) (v := .int (U.1 5)) (ty := .int) (C := RX3) (T := TX3) (N := 9) hx hb hts iX3_become_X3 tyX3 tyX3_ok nmX3 hown hK.1 hP hD hS 0 rfl rfl 5 (by decide) (hts (.fieldLink RX3 25 "DarkPlace$Stand" "moves" "I") (List.mem_of_getElem? (i := 5) rfl)) (fun _ h9 => h9) rfl (by decide +kernel) rfl rfl (Nat.le_of_ble_eq_true rfl) dX3_become_58 (fun H locs hP hD hS => ?_)
        have hP : va_P D vwCl (wSt cy hT aT gT (upd (upd (upd T_I 3 (U.1 3)) 4 (U.1 4)) 5 (U.1 5), dk_upA (dk_upA T.2 1 T_1) 2 T_2) ++ wSt cy hU aU gU U) H := hP
        have hD : va_D A (wSt cy hT aT gT (upd (upd (upd T_I 3 (U.1 3)) 4 (U.1 4)) 5 (U.1 5), dk_upA (dk_upA T.2 1 T_1) 2 T_2) ++ wSt cy hU aU gU U) := hD
        refine lv_aload_n hx hb dX3_become_61 rfl (lv_at hl 0 rfl) ?_
        refine lv_aload_n hx hb dX3_become_62 rfl (lv_at hl 1 rfl) ?_
        refine va_get (D := D) (ci := 3) (v := .int (U.1 6)) (C := RX3) (T := TX3) (N := 9) hx hb hts iX3_become_X3 hown hK.1 hP 3 rfl rfl 6 (by decide) (hts (.fieldLink RX3 28 "DarkPlace$Stand" "unseen" "I") (List.mem_of_getElem? (i := 6) rfl)) (fun _ h9 => h9) rfl dX3_become_63 ?_
        refine va_put (D := D) (ci := 3) (v := .int (U.1 6)) (ty := .int) (C := RX3) (T := TX3) (N := 9) hx hb hts iX3_become_X3 tyX3 tyX3_ok nmX3 hown hK.1 hP hD hS 0 rfl rfl 6 (by decide) (hts (.fieldLink RX3 28 "DarkPlace$Stand" "unseen" "I") (List.mem_of_getElem? (i := 6) rfl)) (fun _ h9 => h9) rfl (by decide +kernel) rfl rfl (Nat.le_of_ble_eq_true rfl) dX3_become_66 (fun H locs hP hD hS => ?_)
        have hP : va_P D vwCl (wSt cy hT aT gT (upd (upd (upd (upd T_I 3 (U.1 3)) 4 (U.1 4)) 5 (U.1 5)) 6 (U.1 6), dk_upA (dk_upA T.2 1 T_1) 2 T_2) ++ wSt cy hU aU gU U) H := hP
        have hD : va_D A (wSt cy hT aT gT (upd (upd (upd (upd T_I 3 (U.1 3)) 4 (U.1 4)) 5 (U.1 5)) 6 (U.1 6), dk_upA (dk_upA T.2 1 T_1) 2 T_2) ++ wSt cy hU aU gU U) := hD
        refine lv_aload_n hx hb dX3_become_69 rfl (lv_at hl 0 rfl) ?_
        refine lv_aload_n hx hb dX3_become_70 rfl (lv_at hl 1 rfl) ?_
        refine va_get (D := D) (ci := 3) (v := .int (U.1 7)) (C := RX3) (T := TX3) (N := 9) hx hb hts iX3_become_X3 hown hK.1 hP 3 rfl rfl 7 (by decide) (hts (.fieldLink RX3 31 "DarkPlace$Stand" "safe" "I") (List.mem_of_getElem? (i := 7) rfl)) (fun _ h9 => h9) rfl dX3_become_71 ?_
        refine va_put (D := D) (ci := 3) (v := .int (U.1 7)) (ty := .int) (C := RX3) (T := TX3) (N := 9) hx hb hts iX3_become_X3 tyX3 tyX3_ok nmX3 hown hK.1 hP hD hS 0 rfl rfl 7 (by decide) (hts (.fieldLink RX3 31 "DarkPlace$Stand" "safe" "I") (List.mem_of_getElem? (i := 7) rfl)) (fun _ h9 => h9) rfl (by decide +kernel) rfl rfl (Nat.le_of_ble_eq_true rfl) dX3_become_74 (fun H locs hP hD hS => ?_)
        have hP : va_P D vwCl (wSt cy hT aT gT (upd (upd (upd (upd (upd T_I 3 (U.1 3)) 4 (U.1 4)) 5 (U.1 5)) 6 (U.1 6)) 7 (U.1 7), dk_upA (dk_upA T.2 1 T_1) 2 T_2) ++ wSt cy hU aU gU U) H := hP
        have hD : va_D A (wSt cy hT aT gT (upd (upd (upd (upd (upd T_I 3 (U.1 3)) 4 (U.1 4)) 5 (U.1 5)) 6 (U.1 6)) 7 (U.1 7), dk_upA (dk_upA T.2 1 T_1) 2 T_2) ++ wSt cy hU aU gU U) := hD
        refine lv_aload_n hx hb dX3_become_77 rfl (lv_at hl 0 rfl) ?_
        refine lv_aload_n hx hb dX3_become_78 rfl (lv_at hl 1 rfl) ?_
        refine va_get (D := D) (ci := 3) (v := .int (U.1 8)) (C := RX3) (T := TX3) (N := 9) hx hb hts iX3_become_X3 hown hK.1 hP 3 rfl rfl 8 (by decide) (hts (.fieldLink RX3 34 "DarkPlace$Stand" "visited" "I") (List.mem_of_getElem? (i := 8) rfl)) (fun _ h9 => h9) rfl dX3_become_79 ?_
        refine va_put (D := D) (ci := 3) (v := .int (U.1 8)) (ty := .int) (C := RX3) (T := TX3) (N := 9) hx hb hts iX3_become_X3 tyX3 tyX3_ok nmX3 hown hK.1 hP hD hS 0 rfl rfl 8 (by decide) (hts (.fieldLink RX3 34 "DarkPlace$Stand" "visited" "I") (List.mem_of_getElem? (i := 8) rfl)) (fun _ h9 => h9) rfl (by decide +kernel) rfl rfl (Nat.le_of_ble_eq_true rfl) dX3_become_82 (fun H locs hP hD hS => ?_)
        have hP : va_P D vwCl (wSt cy hT aT gT (upd (upd (upd (upd (upd (upd T_I 3 (U.1 3)) 4 (U.1 4)) 5 (U.1 5)) 6 (U.1 6)) 7 (U.1 7)) 8 (U.1 8), dk_upA (dk_upA T.2 1 T_1) 2 T_2) ++ wSt cy hU aU gU U) H := hP
        have hD : va_D A (wSt cy hT aT gT (upd (upd (upd (upd (upd (upd T_I 3 (U.1 3)) 4 (U.1 4)) 5 (U.1 5)) 6 (U.1 6)) 7 (U.1 7)) 8 (U.1 8), dk_upA (dk_upA T.2 1 T_1) 2 T_2) ++ wSt cy hU aU gU U) := hD
        have e := Option.some.inj hf
        simp only [Prod.mk.injEq] at e
        obtain ⟨e0, e1, e2⟩ := e
        subst e0
        subst e1
        subst e2
        exact W.vret hx hb hr (fun t ht hW => ⟨⟨(), rfl, trivial, by rw [ht]; exact hP, hD⟩, hS.F ht⟩) hS.2.2 dX3_become_85
      · refine lv_aload_n hx hb dX3_become_7 rfl (lv_at hl 0 rfl) ?_
        refine va_get (D := D) (ci := 3) (v := .ref (aT 1)) (C := RX3) (T := TX3) (N := 9) hx hb hts iX3_become_X3 hown hK.1 hP 0 rfl rfl 1 (by decide) (hts (.fieldLink RX3 9 "DarkPlace$Stand" "at" "[I") (List.mem_of_getElem? (i := 1) rfl)) (fun _ h9 => h9) rfl dX3_become_8 ?_
        refine lv_iload_n hx hb dX3_become_11 rfl (lv_at hl 2 rfl) ?_
        refine lv_aload_n hx hb dX3_become_12 rfl (lv_at hl 1 rfl) ?_
        refine va_get (D := D) (ci := 3) (v := .ref (aU 1)) (C := RX3) (T := TX3) (N := 9) hx hb hts iX3_become_X3 hown hK.1 hP 3 rfl rfl 1 (by decide) (hts (.fieldLink RX3 9 "DarkPlace$Stand" "at" "[I") (List.mem_of_getElem? (i := 1) rfl)) (fun _ h9 => h9) rfl dX3_become_13 ?_
        refine lv_iload_n hx hb dX3_become_16 rfl (lv_at hl 2 rfl) ?_
        refine dk_iald hx hb hK.1 hP 4 0 rfl rfl hf dX3_become_17 (fun d17 hf => ?_)
        refine dk_iast hx hb hK.1 hP hD hS 1 0 rfl rfl hf dX3_become_18 (fun f18 H locs hP hD hS hf => ?_)
        have hP : va_P D vwCl (wSt cy hT aT gT (T_I, dk_upA (dk_upA T.2 1 f18) 2 T_2) ++ wSt cy hU aU gU U) H := hP
        have hD : va_D A (wSt cy hT aT gT (T_I, dk_upA (dk_upA T.2 1 f18) 2 T_2) ++ wSt cy hU aU gU U) := hD
        refine lv_aload_n hx hb dX3_become_19 rfl (lv_at hl 0 rfl) ?_
        refine va_get (D := D) (ci := 3) (v := .ref (aT 2)) (C := RX3) (T := TX3) (N := 9) hx hb hts iX3_become_X3 hown hK.1 hP 0 rfl rfl 2 (by decide) (hts (.fieldLink RX3 15 "DarkPlace$Stand" "out" "[I") (List.mem_of_getElem? (i := 2) rfl)) (fun _ h9 => h9) rfl dX3_become_20 ?_
        refine lv_iload_n hx hb dX3_become_23 rfl (lv_at hl 2 rfl) ?_
        refine lv_aload_n hx hb dX3_become_24 rfl (lv_at hl 1 rfl) ?_
        refine va_get (D := D) (ci := 3) (v := .ref (aU 2)) (C := RX3) (T := TX3) (N := 9) hx hb hts iX3_become_X3 hown hK.1 hP 3 rfl rfl 2 (by decide) (hts (.fieldLink RX3 15 "DarkPlace$Stand" "out" "[I") (List.mem_of_getElem? (i := 2) rfl)) (fun _ h9 => h9) rfl dX3_become_25 ?_
        refine lv_iload_n hx hb dX3_become_28 rfl (lv_at hl 2 rfl) ?_
        refine dk_iald hx hb hK.1 hP 5 0 rfl rfl hf dX3_become_29 (fun d29 hf => ?_)
        refine dk_iast hx hb hK.1 hP hD hS 2 0 rfl rfl hf dX3_become_30 (fun f30 H locs hP hD hS hf => ?_)
        have hP : va_P D vwCl (wSt cy hT aT gT (T_I, dk_upA (dk_upA T.2 1 f18) 2 f30) ++ wSt cy hU aU gU U) H := hP
        have hD : va_D A (wSt cy hT aT gT (T_I, dk_upA (dk_upA T.2 1 f18) 2 f30) ++ wSt cy hU aU gU U) := hD
        refine lv_iinc (v := x2 + 1) (lv' := [(2, .int (x2 + 1)), (0, .ref hT), (1, .ref hU)]) hx hb dX3_become_31 hl (k := 2) rfl rfl (by decide) rfl (fun ls hl => ?_)
        refine lv_goto (tgt := 2) hx hb dX3_become_34 (by decide) ?_
        exact ih2 (x2 + 1) T_I f18 f30 _ _ _ hP hD hS (lv_sub hl [1, 2, 0] rfl) hf
  unfold fX3_become at hf
  refine lv_iconst (v := 0) hx hb dX3_become_0 (by decide) ?_
  refine lv_istore_n (lv' := [(2, .int 0), (0, .ref hT), (1, .ref hU)]) hx hb dX3_become_1 rfl hl (by decide) rfl (fun ls hl => ?_)
  exact L2 1000 0 T.1 (T.2 1) (T.2 2) _ _ _ hP hD hS (lv_sub hl [1, 2, 0] rfl) hf
theorem iX3_suppose_X3 : ∀ w ∈ wsX30, w ∈ wsX3_suppose := fun _ h => List.mem_cons_of_mem _ (List.mem_append_right _ h)
set_option maxHeartbeats 4000000 in
set_option maxRecDepth 100000 in
theorem kX3_suppose (l : Launch) (D : va_G) (cy : Nat → ClassId) (hT : Nat) (aT : Nat → Nat) (gT : Nat) (hU : Nat) (aU : Nat → Nat) (gU : Nat) (sz : Nat) (T : dk_O) (U : dk_O) (v2 : Int32) (oT_I : (Nat → Int32)) (oT_1 : (Nat → Int32)) (oT_2 : (Nat → Int32)) (hf : fX3_suppose T U v2 = some (oT_I, oT_1, oT_2)) : dk_MuV l yX3_suppose wsX3_suppose ({ frames := 1, cells := 0, slots := 0, locals := 22 }) D cy [.ref hT, .ref hU, .int v2] (wSt cy hT aT gT T ++ wSt cy hU aU gU U) (wSt cy hT aT gT (oT_I, dk_upA (dk_upA T.2 1 oT_1) 2 oT_2) ++ wSt cy hU aU gU U) sz := by
  refine Met.ofW (cc := cX3_suppose) (maxL := 3) (ret := none) (by decide) rfl ?_
  intro p e s m args below meth c s₁ B hml hv
  obtain ⟨rfl, hsz, hP, hK, hD0⟩ := hv
  have hx := B.exec
  have hb := B.bytes
  have hr := B.returns
  have hts := atoms_spec (ws := wsX3_suppose) B.pre
  have hown : s.vm.findClass RX3 = some m.cls := findClass_of_methodNamed B.named
  have hlocks := B.notSynchronized
  subst hsz
  have hD := hD0.self (sz := s.heap.size)
  generalize hAe : va_A (wSt cy hT aT gT T ++ wSt cy hU aU gU U) s.heap.size = A at hD ⊢
  have hA : ∀ q : Nat, s.heap.size ≤ q → A q := fun q h => by rw [← hAe]; exact Or.inr h
  have hS : va_S A s.heap s.heap [] := va_S.rf
  have hl := lv_entry ([.ref hT, .ref hU, .int v2]) (n := 3) (Nat.le_of_ble_eq_true rfl)
  rw [lg_entry_eq]
  generalize (lg_sl ([.ref hT, .ref hU, .int v2]) ++ List.replicate (3 - (lg_sl ([.ref hT, .ref hU, .int v2])).length) Slot.unset).toArray = ls at hl ⊢
  have hl : lv_has ls 3 [(0, .ref hT), (1, .ref hU), (2, .int v2)] := hl
  unfold fX3_suppose at hf
  refine lv_aload_n hx hb dX3_suppose_0 rfl (lv_at hl 0 rfl) ?_
  refine lv_aload_n hx hb dX3_suppose_1 rfl (lv_at hl 1 rfl) ?_
  obtain ⟨⟨i2_0, g2_1, g2_2⟩, k2, hf⟩ := dk_bind hf
  dsimp only at hf
  have hPc := hP.sub (ws' := wSt cy hT aT gT T ++ wSt cy hU aU gU U) [0, 1, 2, 3, 4, 5] rfl
  have hDc := hD.sub (ws' := wSt cy hT aT gT T ++ wSt cy hU aU gU U) [0, 1, 2, 3, 4, 5] (by decide) rfl
  have hFc := va_free (wc := wSt cy hT aT gT T ++ wSt cy hU aU gU U) hD hS hA [0, 1, 2, 3, 4, 5] rfl
  refine va_callv (va_runV (As := [.ref hU]) (rest := []) ⟨hx, hb, hml, hown, hts⟩ (kX3_become l D cy hT aT gT hU aU gU s.heap.size T U i2_0 g2_1 g2_2 k2) (cwV 1 hts gX3_suppose_X3_become rfl rfl rfl (by decide +kernel) ⟨Nat.le_of_ble_eq_true rfl, Nat.le_of_ble_eq_true rfl⟩) (dk_premV hK hPc hDc (ci := 3) (q0 := 0) rfl rfl) rfl rfl hl.1 rfl (lv_room (Nat.le_of_ble_eq_true rfl)) dX3_suppose_2 ⟨Nat.zero_le _, Nat.zero_le _⟩) hS (fun q _ h => hFc q h) hFc (fun u t H1 locs ht hvm hw hB hz1 hk1 hS => ?_)
  obtain ⟨hP1, hD1⟩ := hB
  rw [ht] at hP1
  obtain ⟨hP, hD⟩ := va_join (wr := ([] : List Nat).filterMap (fun i => (wSt cy hT aT gT T ++ wSt cy hU aU gU U)[i]?)) (w1 := wSt cy hT aT gT (i2_0, dk_upA (dk_upA T.2 1 g2_1) 2 g2_2) ++ wSt cy hU aU gU U) hP hD [0, 1, 2, 3, 4, 5] [] rfl rfl (by decide) (by decide) hk1 hFc hP1 hD1
  generalize H1 = H at hP hS ⊢
  have hP : va_P D vwCl (wSt cy hT aT gT (i2_0, dk_upA (dk_upA T.2 1 g2_1) 2 g2_2) ++ wSt cy hU aU gU U) H := hP.sub [0, 1, 2, 3, 4, 5] rfl
  have hD : va_D A (wSt cy hT aT gT (i2_0, dk_upA (dk_upA T.2 1 g2_1) 2 g2_2) ++ wSt cy hU aU gU U) := hD.sub [0, 1, 2, 3, 4, 5] (by decide) rfl
  refine lv_aload_n hx hb dX3_suppose_5 rfl (lv_at hl 0 rfl) ?_
  refine lv_iload_n hx hb dX3_suppose_6 rfl (lv_at hl 2 rfl) ?_
  refine va_put (D := D) (ci := 3) (v := .int v2) (ty := .int) (C := RX3) (T := TX3) (N := 9) hx hb hts iX3_suppose_X3 tyX3 tyX3_ok nmX3 hown hK.1 hP hD hS 0 rfl rfl 4 (by decide) (hts (.fieldLink RX3 22 "DarkPlace$Stand" "hole" "I") (List.mem_of_getElem? (i := 1) rfl)) (fun _ h9 => h9) rfl (by decide +kernel) rfl rfl (Nat.le_of_ble_eq_true rfl) dX3_suppose_7 (fun H locs hP hD hS => ?_)
  have hP : va_P D vwCl (wSt cy hT aT gT (upd i2_0 4 v2, dk_upA (dk_upA T.2 1 g2_1) 2 g2_2) ++ wSt cy hU aU gU U) H := hP
  have hD : va_D A (wSt cy hT aT gT (upd i2_0 4 v2, dk_upA (dk_upA T.2 1 g2_1) 2 g2_2) ++ wSt cy hU aU gU U) := hD
  have e := Option.some.inj hf
  simp only [Prod.mk.injEq] at e
  obtain ⟨e0, e1, e2⟩ := e
  subst e0
  subst e1
  subst e2
  exact W.vret hx hb hr (fun t ht hW => ⟨⟨(), rfl, trivial, by rw [ht]; exact hP, hD⟩, hS.F ht⟩) hS.2.2 dX3_suppose_10
theorem iX3_isSearcher_X3 : ∀ w ∈ wsX30, w ∈ wsX3_isSearcher := fun _ h => List.mem_cons_of_mem _ (List.mem_append_right _ h)
set_option maxHeartbeats 4000000 in
set_option maxRecDepth 100000 in
theorem kX3_isSearcher (l : Launch) (D : va_G) (cy : Nat → ClassId) (hT : Nat) (aT : Nat → Nat) (hG : Nat) (aG : Nat → Nat) (T : dk_O) (G : dk_O) (v1 : Int32) (r : Int32) (hf : fX3_isSearcher T G v1 = some r) : dk_RdI l yX3_isSearcher wsX3_isSearcher ({ frames := 0, cells := 0, slots := 0, locals := 0 }) D cy [.ref hT, .int v1] (wSt cy hT aT hG T ++ wNt cy hG aG G) r := by
  refine Met.ofW (cc := cX3_isSearcher) (maxL := 2) (ret := (some .boolean)) (by decide) rfl ?_
  intro p e s m args below meth c s₁ B hml hv
  obtain ⟨rfl, hP, hK⟩ := hv
  have hx := B.exec
  have hb := B.bytes
  have hr := B.returns
  have hts := atoms_spec (ws := wsX3_isSearcher) B.pre
  have hown : s.vm.findClass RX3 = some m.cls := findClass_of_methodNamed B.named
  have hlocks := B.notSynchronized
  have hl := lv_entry ([.ref hT, .int v1]) (n := 2) (Nat.le_of_ble_eq_true rfl)
  rw [lg_entry_eq]
  generalize (lg_sl ([.ref hT, .int v1]) ++ List.replicate (2 - (lg_sl ([.ref hT, .int v1])).length) Slot.unset).toArray = ls at hl ⊢
  have hl : lv_has ls 2 [(0, .ref hT), (1, .int v1)] := hl
  unfold fX3_isSearcher at hf
  refine lv_iload_n hx hb dX3_isSearcher_0 rfl (lv_at hl 1 rfl) ?_
  refine dk_ilt (tgt := 16) hx hb dX3_isSearcher_1 (by decide) hf (fun hf => ?_) (fun hf => ?_)
  · refine lv_iconst (v := 0) hx hb dX3_isSearcher_16 (by decide) ?_
    exact W.zret (v := 0) hx hb hr rfl (fun t ht hW => ⟨0, rfl, Option.some.inj hf, ht⟩) t_nil dX3_isSearcher_17
  · refine lv_iload_n hx hb dX3_isSearcher_4 rfl (lv_at hl 1 rfl) ?_
    refine lv_aload_n hx hb dX3_isSearcher_5 rfl (lv_at hl 0 rfl) ?_
    refine va_get (D := D) (ci := 3) (v := .int (T.1 3)) (C := RX3) (T := TX3) (N := 9) hx hb hts iX3_isSearcher_X3 hown hK.1 hP 0 rfl rfl 3 (by decide) (hts (.fieldLink RX3 18 "DarkPlace$Stand" "searchers" "I") (List.mem_of_getElem? (i := 1) rfl)) (fun _ h9 => h9) rfl dX3_isSearcher_6 ?_
    refine dk_cge (tgt := 16) hx hb dX3_isSearcher_9 (by decide) hf (fun hf => ?_) (fun hf => ?_)
    · refine lv_iconst (v := 0) hx hb dX3_isSearcher_16 (by decide) ?_
      exact W.zret (v := 0) hx hb hr rfl (fun t ht hW => ⟨0, rfl, Option.some.inj hf, ht⟩) t_nil dX3_isSearcher_17
    · refine lv_iconst (v := 1) hx hb dX3_isSearcher_12 (by decide) ?_
      refine lv_goto (tgt := 17) hx hb dX3_isSearcher_13 (by decide) ?_
      exact W.zret (v := 1) hx hb hr rfl (fun t ht hW => ⟨1, rfl, Option.some.inj hf, ht⟩) t_nil dX3_isSearcher_17
theorem iX3_lives_X3 : ∀ w ∈ wsX30, w ∈ wsX3_lives := fun _ h => List.mem_cons_of_mem _ (List.mem_append_right _ h)
set_option maxHeartbeats 4000000 in
set_option maxRecDepth 100000 in
theorem kX3_lives (l : Launch) (D : va_G) (cy : Nat → ClassId) (hT : Nat) (aT : Nat → Nat) (hG : Nat) (aG : Nat → Nat) (T : dk_O) (G : dk_O) (v1 : Int32) (r : Int32) (hf : fX3_lives T G v1 = some r) : dk_RdI l yX3_lives wsX3_lives ({ frames := 1, cells := 0, slots := 0, locals := 21 }) D cy [.ref hT, .int v1] (wSt cy hT aT hG T ++ wNt cy hG aG G) r := by
  refine Met.ofW (cc := cX3_lives) (maxL := 2) (ret := (some .boolean)) (by decide) rfl ?_
  intro p e s m args below meth c s₁ B hml hv
  obtain ⟨rfl, hP, hK⟩ := hv
  have hx := B.exec
  have hb := B.bytes
  have hr := B.returns
  have hts := atoms_spec (ws := wsX3_lives) B.pre
  have hown : s.vm.findClass RX3 = some m.cls := findClass_of_methodNamed B.named
  have hlocks := B.notSynchronized
  have hl := lv_entry ([.ref hT, .int v1]) (n := 2) (Nat.le_of_ble_eq_true rfl)
  rw [lg_entry_eq]
  generalize (lg_sl ([.ref hT, .int v1]) ++ List.replicate (2 - (lg_sl ([.ref hT, .int v1])).length) Slot.unset).toArray = ls at hl ⊢
  have hl : lv_has ls 2 [(0, .ref hT), (1, .int v1)] := hl
  unfold fX3_lives at hf
  refine lv_aload_n hx hb dX3_lives_0 rfl (lv_at hl 0 rfl) ?_
  refine lv_iload_n hx hb dX3_lives_1 rfl (lv_at hl 1 rfl) ?_
  obtain ⟨r2, k2, hf⟩ := dk_bind hf
  refine dk_ri (va_runV (As := [.int v1]) (rest := []) ⟨hx, hb, hml, hown, hts⟩ (kX3_isSearcher l D cy hT aT hG aG T G v1 r2 k2) (cwV 1 hts gX3_lives_X3_isSearcher rfl rfl rfl (by decide +kernel) ⟨Nat.le_of_ble_eq_true rfl, Nat.le_of_ble_eq_true rfl⟩) (dk_preV hK (hP.sub (ws' := wSt cy hT aT hG T ++ wNt cy hG aG G) [0, 1, 2, 3, 4, 5, 6] rfl) (ci := 3) (q0 := 0) rfl rfl) rfl rfl hl.1 rfl (lv_room (Nat.le_of_ble_eq_true rfl)) dX3_lives_2 ⟨Nat.zero_le _, Nat.zero_le _⟩) ?_
  refine dk_ieq (tgt := 23) hx hb dX3_lives_5 (by decide) hf (fun hf => ?_) (fun hf => ?_)
  · refine lv_iconst (v := 0) hx hb dX3_lives_23 (by decide) ?_
    exact W.zret (v := 0) hx hb hr rfl (fun t ht hW => ⟨0, rfl, Option.some.inj hf, ht⟩) t_nil dX3_lives_24
  · refine lv_aload_n hx hb dX3_lives_8 rfl (lv_at hl 0 rfl) ?_
    refine va_get (D := D) (ci := 3) (v := .ref (aT 1)) (C := RX3) (T := TX3) (N := 9) hx hb hts iX3_lives_X3 hown hK.1 hP 0 rfl rfl 1 (by decide) (hts (.fieldLink RX3 9 "DarkPlace$Stand" "at" "[I") (List.mem_of_getElem? (i := 1) rfl)) (fun _ h9 => h9) rfl dX3_lives_9 ?_
    refine lv_iload_n hx hb dX3_lives_12 rfl (lv_at hl 1 rfl) ?_
    refine dk_iald hx hb hK.1 hP 1 0 rfl rfl hf dX3_lives_13 (fun d13 hf => ?_)
    refine lv_bipush (v := (-9)) hx hb dX3_lives_14 (by decide) ?_
    refine dk_ceq (tgt := 23) hx hb dX3_lives_16 (by decide) hf (fun hf => ?_) (fun hf => ?_)
    · refine lv_iconst (v := 0) hx hb dX3_lives_23 (by decide) ?_
      exact W.zret (v := 0) hx hb hr rfl (fun t ht hW => ⟨0, rfl, Option.some.inj hf, ht⟩) t_nil dX3_lives_24
    · refine lv_iconst (v := 1) hx hb dX3_lives_19 (by decide) ?_
      refine lv_goto (tgt := 24) hx hb dX3_lives_20 (by decide) ?_
      exact W.zret (v := 1) hx hb hr rfl (fun t ht hW => ⟨1, rfl, Option.some.inj hf, ht⟩) t_nil dX3_lives_24
theorem iX3_placeOf_X3 : ∀ w ∈ wsX30, w ∈ wsX3_placeOf := fun _ h => List.mem_cons_of_mem _ (List.mem_append_right _ h)
set_option maxHeartbeats 4000000 in
set_option maxRecDepth 100000 in
theorem kX3_placeOf (l : Launch) (D : va_G) (cy : Nat → ClassId) (hT : Nat) (aT : Nat → Nat) (hG : Nat) (aG : Nat → Nat) (T : dk_O) (G : dk_O) (v1 : Int32) (r : Int32) (hf : fX3_placeOf T G v1 = some r) : dk_RdI l yX3_placeOf wsX3_placeOf ({ frames := 1, cells := 0, slots := 0, locals := 21 }) D cy [.ref hT, .int v1] (wSt cy hT aT hG T ++ wNt cy hG aG G) r := by
  refine Met.ofW (cc := cX3_placeOf) (maxL := 2) (ret := (some .int)) (by decide) rfl ?_
  intro p e s m args below meth c s₁ B hml hv
  obtain ⟨rfl, hP, hK⟩ := hv
  have hx := B.exec
  have hb := B.bytes
  have hr := B.returns
  have hts := atoms_spec (ws := wsX3_placeOf) B.pre
  have hown : s.vm.findClass RX3 = some m.cls := findClass_of_methodNamed B.named
  have hlocks := B.notSynchronized
  have hl := lv_entry ([.ref hT, .int v1]) (n := 2) (Nat.le_of_ble_eq_true rfl)
  rw [lg_entry_eq]
  generalize (lg_sl ([.ref hT, .int v1]) ++ List.replicate (2 - (lg_sl ([.ref hT, .int v1])).length) Slot.unset).toArray = ls at hl ⊢
  have hl : lv_has ls 2 [(0, .ref hT), (1, .int v1)] := hl
  unfold fX3_placeOf at hf
  refine lv_aload_n hx hb dX3_placeOf_0 rfl (lv_at hl 0 rfl) ?_
  refine lv_iload_n hx hb dX3_placeOf_1 rfl (lv_at hl 1 rfl) ?_
  obtain ⟨r2, k2, hf⟩ := dk_bind hf
  refine dk_ri (va_runV (As := [.int v1]) (rest := []) ⟨hx, hb, hml, hown, hts⟩ (kX3_isSearcher l D cy hT aT hG aG T G v1 r2 k2) (cwV 1 hts gX3_placeOf_X3_isSearcher rfl rfl rfl (by decide +kernel) ⟨Nat.le_of_ble_eq_true rfl, Nat.le_of_ble_eq_true rfl⟩) (dk_preV hK (hP.sub (ws' := wSt cy hT aT hG T ++ wNt cy hG aG G) [0, 1, 2, 3, 4, 5, 6] rfl) (ci := 3) (q0 := 0) rfl rfl) rfl rfl hl.1 rfl (lv_room (Nat.le_of_ble_eq_true rfl)) dX3_placeOf_2 ⟨Nat.zero_le _, Nat.zero_le _⟩) ?_
  refine dk_ieq (tgt := 17) hx hb dX3_placeOf_5 (by decide) hf (fun hf => ?_) (fun hf => ?_)
  · refine lv_bipush (v := (-9)) hx hb dX3_placeOf_17 (by decide) ?_
    exact W.iret (v := (-9)) hx hb hr (fun t ht hW => ⟨(-9), rfl, Option.some.inj hf, ht⟩) t_nil dX3_placeOf_19
  · refine lv_aload_n hx hb dX3_placeOf_8 rfl (lv_at hl 0 rfl) ?_
    refine va_get (D := D) (ci := 3) (v := .ref (aT 1)) (C := RX3) (T := TX3) (N := 9) hx hb hts iX3_placeOf_X3 hown hK.1 hP 0 rfl rfl 1 (by decide) (hts (.fieldLink RX3 9 "DarkPlace$Stand" "at" "[I") (List.mem_of_getElem? (i := 1) rfl)) (fun _ h9 => h9) rfl dX3_placeOf_9 ?_
    refine lv_iload_n hx hb dX3_placeOf_12 rfl (lv_at hl 1 rfl) ?_
    refine dk_iald hx hb hK.1 hP 1 0 rfl rfl hf dX3_placeOf_13 (fun d13 hf => ?_)
    refine lv_goto (tgt := 19) hx hb dX3_placeOf_14 (by decide) ?_
    exact W.iret (v := d13) hx hb hr (fun t ht hW => ⟨d13, rfl, Option.some.inj hf, ht⟩) t_nil dX3_placeOf_19
theorem iX3_wayOutOf_X3 : ∀ w ∈ wsX30, w ∈ wsX3_wayOutOf := fun _ h => List.mem_cons_of_mem _ (List.mem_append_right _ h)
set_option maxHeartbeats 4000000 in
set_option maxRecDepth 100000 in
theorem kX3_wayOutOf (l : Launch) (D : va_G) (cy : Nat → ClassId) (hT : Nat) (aT : Nat → Nat) (hG : Nat) (aG : Nat → Nat) (T : dk_O) (G : dk_O) (v1 : Int32) (r : Int32) (hf : fX3_wayOutOf T G v1 = some r) : dk_RdI l yX3_wayOutOf wsX3_wayOutOf ({ frames := 1, cells := 0, slots := 0, locals := 21 }) D cy [.ref hT, .int v1] (wSt cy hT aT hG T ++ wNt cy hG aG G) r := by
  refine Met.ofW (cc := cX3_wayOutOf) (maxL := 2) (ret := (some .int)) (by decide) rfl ?_
  intro p e s m args below meth c s₁ B hml hv
  obtain ⟨rfl, hP, hK⟩ := hv
  have hx := B.exec
  have hb := B.bytes
  have hr := B.returns
  have hts := atoms_spec (ws := wsX3_wayOutOf) B.pre
  have hown : s.vm.findClass RX3 = some m.cls := findClass_of_methodNamed B.named
  have hlocks := B.notSynchronized
  have hl := lv_entry ([.ref hT, .int v1]) (n := 2) (Nat.le_of_ble_eq_true rfl)
  rw [lg_entry_eq]
  generalize (lg_sl ([.ref hT, .int v1]) ++ List.replicate (2 - (lg_sl ([.ref hT, .int v1])).length) Slot.unset).toArray = ls at hl ⊢
  have hl : lv_has ls 2 [(0, .ref hT), (1, .int v1)] := hl
  unfold fX3_wayOutOf at hf
  refine lv_aload_n hx hb dX3_wayOutOf_0 rfl (lv_at hl 0 rfl) ?_
  refine lv_iload_n hx hb dX3_wayOutOf_1 rfl (lv_at hl 1 rfl) ?_
  obtain ⟨r2, k2, hf⟩ := dk_bind hf
  refine dk_ri (va_runV (As := [.int v1]) (rest := []) ⟨hx, hb, hml, hown, hts⟩ (kX3_isSearcher l D cy hT aT hG aG T G v1 r2 k2) (cwV 1 hts gX3_wayOutOf_X3_isSearcher rfl rfl rfl (by decide +kernel) ⟨Nat.le_of_ble_eq_true rfl, Nat.le_of_ble_eq_true rfl⟩) (dk_preV hK (hP.sub (ws' := wSt cy hT aT hG T ++ wNt cy hG aG G) [0, 1, 2, 3, 4, 5, 6] rfl) (ci := 3) (q0 := 0) rfl rfl) rfl rfl hl.1 rfl (lv_room (Nat.le_of_ble_eq_true rfl)) dX3_wayOutOf_2 ⟨Nat.zero_le _, Nat.zero_le _⟩) ?_
  refine dk_ieq (tgt := 17) hx hb dX3_wayOutOf_5 (by decide) hf (fun hf => ?_) (fun hf => ?_)
  · refine lv_bipush (v := (-9)) hx hb dX3_wayOutOf_17 (by decide) ?_
    exact W.iret (v := (-9)) hx hb hr (fun t ht hW => ⟨(-9), rfl, Option.some.inj hf, ht⟩) t_nil dX3_wayOutOf_19
  · refine lv_aload_n hx hb dX3_wayOutOf_8 rfl (lv_at hl 0 rfl) ?_
    refine va_get (D := D) (ci := 3) (v := .ref (aT 2)) (C := RX3) (T := TX3) (N := 9) hx hb hts iX3_wayOutOf_X3 hown hK.1 hP 0 rfl rfl 2 (by decide) (hts (.fieldLink RX3 15 "DarkPlace$Stand" "out" "[I") (List.mem_of_getElem? (i := 1) rfl)) (fun _ h9 => h9) rfl dX3_wayOutOf_9 ?_
    refine lv_iload_n hx hb dX3_wayOutOf_12 rfl (lv_at hl 1 rfl) ?_
    refine dk_iald hx hb hK.1 hP 2 0 rfl rfl hf dX3_wayOutOf_13 (fun d13 hf => ?_)
    refine lv_goto (tgt := 19) hx hb dX3_wayOutOf_14 (by decide) ?_
    exact W.iret (v := d13) hx hb hr (fun t ht hW => ⟨d13, rfl, Option.some.inj hf, ht⟩) t_nil dX3_wayOutOf_19
theorem iX3_livingOnes_X3 : ∀ w ∈ wsX30, w ∈ wsX3_livingOnes := fun _ h => List.mem_cons_of_mem _ (List.mem_append_right _ h)
set_option maxHeartbeats 4000000 in
set_option maxRecDepth 100000 in
theorem kX3_livingOnes (l : Launch) (D : va_G) (cy : Nat → ClassId) (hT : Nat) (aT : Nat → Nat) (hG : Nat) (aG : Nat → Nat) (T : dk_O) (G : dk_O)  (r : Int32) (hf : fX3_livingOnes T G = some r) : dk_RdI l yX3_livingOnes wsX3_livingOnes ({ frames := 0, cells := 0, slots := 0, locals := 0 }) D cy [.ref hT] (wSt cy hT aT hG T ++ wNt cy hG aG G) r := by
  refine Met.ofW (cc := cX3_livingOnes) (maxL := 3) (ret := (some .int)) (by decide) rfl ?_
  intro p e s m args below meth c s₁ B hml hv
  obtain ⟨rfl, hP, hK⟩ := hv
  have hx := B.exec
  have hb := B.bytes
  have hr := B.returns
  have hts := atoms_spec (ws := wsX3_livingOnes) B.pre
  have hown : s.vm.findClass RX3 = some m.cls := findClass_of_methodNamed B.named
  have hlocks := B.notSynchronized
  have hl := lv_entry ([.ref hT]) (n := 3) (Nat.le_of_ble_eq_true rfl)
  rw [lg_entry_eq]
  generalize (lg_sl ([.ref hT]) ++ List.replicate (3 - (lg_sl ([.ref hT])).length) Slot.unset).toArray = ls at hl ⊢
  have hl : lv_has ls 3 [(0, .ref hT)] := hl
  have L4 : ∀ (fu4 : Nat) (x1 : Int32) (x2 : Int32) (ls : Array Slot), lv_has ls 3 [(0, .ref hT), (1, .int x1), (2, .int x2)] → fX3_livingOnes_L4 T G fu4 x1 x2 = some r → W p l e (headSpec wsX3_livingOnes ({ frames := 0, cells := 0, slots := 0, locals := 0 })).room s m ([.ref hT]).toArray below meth c s.heap [] 0 0 (MQ below (vp_Si (fun x => x = r)) ([.ref hT]).toArray s 0 0 (fun _ => False)) (F0 m 4 ls []) := by
    intro fu4
    induction fu4 with
    | zero =>
      intro x1 x2 ls hl hf
      rw [fX3_livingOnes_L4] at hf
      cases hf
    | succ fu4 ih4 =>
      intro x1 x2 ls hl hf
      rw [fX3_livingOnes_L4] at hf
      refine lv_iload_n hx hb dX3_livingOnes_4 rfl (lv_at hl 2 rfl) ?_
      refine lv_aload_n hx hb dX3_livingOnes_5 rfl (lv_at hl 0 rfl) ?_
      refine va_get (D := D) (ci := 3) (v := .int (T.1 3)) (C := RX3) (T := TX3) (N := 9) hx hb hts iX3_livingOnes_X3 hown hK.1 hP 0 rfl rfl 3 (by decide) (hts (.fieldLink RX3 18 "DarkPlace$Stand" "searchers" "I") (List.mem_of_getElem? (i := 1) rfl)) (fun _ h9 => h9) rfl dX3_livingOnes_6 ?_
      refine dk_cge (tgt := 35) hx hb dX3_livingOnes_9 (by decide) hf (fun hf => ?_) (fun hf => ?_)
      · refine lv_iload_n hx hb dX3_livingOnes_35 rfl (lv_at hl 1 rfl) ?_
        exact W.iret (v := x1) hx hb hr (fun t ht hW => ⟨x1, rfl, Option.some.inj hf, ht⟩) t_nil dX3_livingOnes_36
      · refine lv_aload_n hx hb dX3_livingOnes_12 rfl (lv_at hl 0 rfl) ?_
        refine va_get (D := D) (ci := 3) (v := .ref (aT 1)) (C := RX3) (T := TX3) (N := 9) hx hb hts iX3_livingOnes_X3 hown hK.1 hP 0 rfl rfl 1 (by decide) (hts (.fieldLink RX3 9 "DarkPlace$Stand" "at" "[I") (List.mem_of_getElem? (i := 2) rfl)) (fun _ h9 => h9) rfl dX3_livingOnes_13 ?_
        refine lv_iload_n hx hb dX3_livingOnes_16 rfl (lv_at hl 2 rfl) ?_
        refine dk_iald hx hb hK.1 hP 1 0 rfl rfl hf dX3_livingOnes_17 (fun d17 hf => ?_)
        refine lv_bipush (v := (-9)) hx hb dX3_livingOnes_18 (by decide) ?_
        refine dk_ceq (tgt := 29) hx hb dX3_livingOnes_20 (by decide) hf (fun hf => ?_) (fun hf => ?_)
        · refine lv_iinc (v := x2 + 1) (lv' := [(2, .int (x2 + 1)), (0, .ref hT), (1, .int x1)]) hx hb dX3_livingOnes_29 hl (k := 2) rfl rfl (by decide) rfl (fun ls hl => ?_)
          refine lv_goto (tgt := 4) hx hb dX3_livingOnes_32 (by decide) ?_
          exact ih4 x1 (x2 + 1) _ (lv_sub hl [1, 2, 0] rfl) hf
        · refine lv_iload_n hx hb dX3_livingOnes_23 rfl (lv_at hl 1 rfl) ?_
          refine lv_iconst (v := 1) hx hb dX3_livingOnes_24 (by decide) ?_
          refine lv_iload_n hx hb dX3_livingOnes_25 rfl (lv_at hl 2 rfl) ?_
          refine lv_ishl hx hb dX3_livingOnes_26 ?_
          refine lv_ior hx hb dX3_livingOnes_27 ?_
          refine lv_istore_n (lv' := [(1, .int (x1 ||| ((1 : Int32) <<< (x2 &&& 31)))), (0, .ref hT), (2, .int x2)]) hx hb dX3_livingOnes_28 rfl hl (by decide) rfl (fun ls hl => ?_)
          refine lv_iinc (v := x2 + 1) (lv' := [(2, .int (x2 + 1)), (1, .int (x1 ||| ((1 : Int32) <<< (x2 &&& 31)))), (0, .ref hT)]) hx hb dX3_livingOnes_29 hl (k := 2) rfl rfl (by decide) rfl (fun ls hl => ?_)
          refine lv_goto (tgt := 4) hx hb dX3_livingOnes_32 (by decide) ?_
          exact ih4 (x1 ||| ((1 : Int32) <<< (x2 &&& 31))) (x2 + 1) _ (lv_sub hl [2, 1, 0] rfl) hf
  unfold fX3_livingOnes at hf
  refine lv_iconst (v := 0) hx hb dX3_livingOnes_0 (by decide) ?_
  refine lv_istore_n (lv' := [(1, .int 0), (0, .ref hT)]) hx hb dX3_livingOnes_1 rfl hl (by decide) rfl (fun ls hl => ?_)
  refine lv_iconst (v := 0) hx hb dX3_livingOnes_2 (by decide) ?_
  refine lv_istore_n (lv' := [(2, .int 0), (1, .int 0), (0, .ref hT)]) hx hb dX3_livingOnes_3 rfl hl (by decide) rfl (fun ls hl => ?_)
  exact L4 1000 0 0 _ (lv_sub hl [2, 1, 0] rfl) hf
set_option maxHeartbeats 4000000 in
set_option maxRecDepth 100000 in
theorem kX3_living (l : Launch) (D : va_G) (cy : Nat → ClassId) (hT : Nat) (aT : Nat → Nat) (hG : Nat) (aG : Nat → Nat) (T : dk_O) (G : dk_O)  (r : Int32) (hf : fX3_living T G = some r) : dk_RdI l yX3_living wsX3_living ({ frames := 1, cells := 0, slots := 0, locals := 22 }) D cy [.ref hT] (wSt cy hT aT hG T ++ wNt cy hG aG G) r := by
  refine Met.ofW (cc := cX3_living) (maxL := 1) (ret := (some .int)) (by decide) rfl ?_
  intro p e s m args below meth c s₁ B hml hv
  obtain ⟨rfl, hP, hK⟩ := hv
  have hx := B.exec
  have hb := B.bytes
  have hr := B.returns
  have hts := atoms_spec (ws := wsX3_living) B.pre
  have hown : s.vm.findClass RX3 = some m.cls := findClass_of_methodNamed B.named
  have hlocks := B.notSynchronized
  have hl := lv_entry ([.ref hT]) (n := 1) (Nat.le_of_ble_eq_true rfl)
  rw [lg_entry_eq]
  generalize (lg_sl ([.ref hT]) ++ List.replicate (1 - (lg_sl ([.ref hT])).length) Slot.unset).toArray = ls at hl ⊢
  have hl : lv_has ls 1 [(0, .ref hT)] := hl
  unfold fX3_living at hf
  refine lv_aload_n hx hb dX3_living_0 rfl (lv_at hl 0 rfl) ?_
  obtain ⟨r1, k1, hf⟩ := dk_bind hf
  refine dk_ri (va_runV (As := []) (rest := []) ⟨hx, hb, hml, hown, hts⟩ (kX3_livingOnes l D cy hT aT hG aG T G r1 k1) (cwV 0 hts gX3_living_X3_livingOnes rfl rfl rfl (by decide +kernel) ⟨Nat.le_of_ble_eq_true rfl, Nat.le_of_ble_eq_true rfl⟩) (dk_preV hK (hP.sub (ws' := wSt cy hT aT hG T ++ wNt cy hG aG G) [0, 1, 2, 3, 4, 5, 6] rfl) (ci := 3) (q0 := 0) rfl rfl) rfl rfl hl.1 rfl (lv_room (Nat.le_of_ble_eq_true rfl)) dX3_living_1 ⟨Nat.zero_le _, Nat.zero_le _⟩) ?_
  obtain ⟨r4, k4, hf⟩ := dk_bind hf
  refine dk_ri (va_runS (As := [.int r1]) (rest := []) ⟨hx, hb, hml, hown, hts⟩ (kJ6_bitCount_0f7a4 l D cy r1 r4 k4) (va_cwS 1 hts gX3_living_J6_bitCount_0f7a4 rfl rfl rfl (by decide +kernel) ⟨Nat.le_of_ble_eq_true rfl, Nat.le_of_ble_eq_true rfl⟩) (dk_preS hK (hP.sub (ws' := []) [] rfl)) rfl rfl hl.1 rfl (lv_room (Nat.le_of_ble_eq_true rfl)) dX3_living_4 ⟨Nat.zero_le _, Nat.zero_le _⟩) ?_
  exact W.iret (v := r4) hx hb hr (fun t ht hW => ⟨r4, rfl, Option.some.inj hf, ht⟩) t_nil dX3_living_7
theorem iX3_stateOf_X3 : ∀ w ∈ wsX30, w ∈ wsX3_stateOf := fun _ h => List.mem_cons_of_mem _ (List.mem_append_right _ h)
set_option maxHeartbeats 4000000 in
set_option maxRecDepth 100000 in
theorem kX3_stateOf (l : Launch) (D : va_G) (cy : Nat → ClassId) (hT : Nat) (aT : Nat → Nat) (hG : Nat) (aG : Nat → Nat) (T : dk_O) (G : dk_O) (v1 : Int32) (r : Int32) (hf : fX3_stateOf T G v1 = some r) : dk_RdI l yX3_stateOf wsX3_stateOf ({ frames := 1, cells := 0, slots := 0, locals := 21 }) D cy [.ref hT, .int v1] (wSt cy hT aT hG T ++ wNt cy hG aG G) r := by
  refine Met.ofW (cc := cX3_stateOf) (maxL := 2) (ret := (some .int)) (by decide) rfl ?_
  intro p e s m args below meth c s₁ B hml hv
  obtain ⟨rfl, hP, hK⟩ := hv
  have hx := B.exec
  have hb := B.bytes
  have hr := B.returns
  have hts := atoms_spec (ws := wsX3_stateOf) B.pre
  have hown : s.vm.findClass RX3 = some m.cls := findClass_of_methodNamed B.named
  have hlocks := B.notSynchronized
  have hl := lv_entry ([.ref hT, .int v1]) (n := 2) (Nat.le_of_ble_eq_true rfl)
  rw [lg_entry_eq]
  generalize (lg_sl ([.ref hT, .int v1]) ++ List.replicate (2 - (lg_sl ([.ref hT, .int v1])).length) Slot.unset).toArray = ls at hl ⊢
  have hl : lv_has ls 2 [(0, .ref hT), (1, .int v1)] := hl
  unfold fX3_stateOf at hf
  refine lv_aload_n hx hb dX3_stateOf_0 rfl (lv_at hl 0 rfl) ?_
  refine va_get (D := D) (ci := 3) (v := .int (T.1 6)) (C := RX3) (T := TX3) (N := 9) hx hb hts iX3_stateOf_X3 hown hK.1 hP 0 rfl rfl 6 (by decide) (hts (.fieldLink RX3 28 "DarkPlace$Stand" "unseen" "I") (List.mem_of_getElem? (i := 1) rfl)) (fun _ h9 => h9) rfl dX3_stateOf_1 ?_
  refine lv_iload_n hx hb dX3_stateOf_4 rfl (lv_at hl 1 rfl) ?_
  obtain ⟨r5, k5, hf⟩ := dk_bind hf
  refine dk_ri (va_runSN (As := [.int (T.1 6), .int v1]) (rest := []) ⟨hx, hb, hml, hown, hts⟩ (kX5_holds l D cy (T.1 6) v1 r5 k5) ⟨va_cnB 2 hts gX3_stateOf_X5_holds_n85 rfl rfl rfl (hK.2 (.methodLinkNest "DarkPlace$Stand" 85 ⟨"DarkPlace", "holds", "(II)Z"⟩ "DarkPlace") (List.mem_of_getElem? (i := 21) rfl)) (hts (.initialized RX5) (List.mem_of_getElem? (i := 4) rfl)) (by decide +kernel) ⟨Nat.le_of_ble_eq_true rfl, Nat.le_of_ble_eq_true rfl⟩, (hts (.static yX5_holds) (List.mem_of_getElem? (i := 3) rfl)), trivial⟩ (dk_preS hK (hP.sub (ws' := []) [] rfl)) rfl rfl hl.1 rfl (lv_room (Nat.le_of_ble_eq_true rfl)) dX3_stateOf_5 ⟨Nat.zero_le _, Nat.zero_le _⟩) ?_
  refine dk_ieq (tgt := 13) hx hb dX3_stateOf_8 (by decide) hf (fun hf => ?_) (fun hf => ?_)
  · refine lv_aload_n hx hb dX3_stateOf_13 rfl (lv_at hl 0 rfl) ?_
    refine va_get (D := D) (ci := 3) (v := .int (T.1 7)) (C := RX3) (T := TX3) (N := 9) hx hb hts iX3_stateOf_X3 hown hK.1 hP 0 rfl rfl 7 (by decide) (hts (.fieldLink RX3 31 "DarkPlace$Stand" "safe" "I") (List.mem_of_getElem? (i := 2) rfl)) (fun _ h9 => h9) rfl dX3_stateOf_14 ?_
    refine lv_iload_n hx hb dX3_stateOf_17 rfl (lv_at hl 1 rfl) ?_
    obtain ⟨r18, k18, hf⟩ := dk_bind hf
    refine dk_ri (va_runSN (As := [.int (T.1 7), .int v1]) (rest := []) ⟨hx, hb, hml, hown, hts⟩ (kX5_holds l D cy (T.1 7) v1 r18 k18) ⟨va_cnB 2 hts gX3_stateOf_X5_holds_n85 rfl rfl rfl (hK.2 (.methodLinkNest "DarkPlace$Stand" 85 ⟨"DarkPlace", "holds", "(II)Z"⟩ "DarkPlace") (List.mem_of_getElem? (i := 21) rfl)) (hts (.initialized RX5) (List.mem_of_getElem? (i := 4) rfl)) (by decide +kernel) ⟨Nat.le_of_ble_eq_true rfl, Nat.le_of_ble_eq_true rfl⟩, (hts (.static yX5_holds) (List.mem_of_getElem? (i := 3) rfl)), trivial⟩ (dk_preS hK (hP.sub (ws' := []) [] rfl)) rfl rfl hl.1 rfl (lv_room (Nat.le_of_ble_eq_true rfl)) dX3_stateOf_18 ⟨Nat.zero_le _, Nat.zero_le _⟩) ?_
    refine dk_ieq (tgt := 28) hx hb dX3_stateOf_21 (by decide) hf (fun hf => ?_) (fun hf => ?_)
    · refine lv_iconst (v := 1) hx hb dX3_stateOf_28 (by decide) ?_
      exact W.iret (v := 1) hx hb hr (fun t ht hW => ⟨1, rfl, Option.some.inj hf, ht⟩) t_nil dX3_stateOf_29
    · refine lv_iconst (v := 2) hx hb dX3_stateOf_24 (by decide) ?_
      refine lv_goto (tgt := 29) hx hb dX3_stateOf_25 (by decide) ?_
      exact W.iret (v := 2) hx hb hr (fun t ht hW => ⟨2, rfl, Option.some.inj hf, ht⟩) t_nil dX3_stateOf_29
  · refine lv_iconst (v := 0) hx hb dX3_stateOf_11 (by decide) ?_
    exact W.iret (v := 0) hx hb hr (fun t ht hW => ⟨0, rfl, Option.some.inj hf, ht⟩) t_nil dX3_stateOf_12
theorem iX3_whoIsOutThrough_X3 : ∀ w ∈ wsX30, w ∈ wsX3_whoIsOutThrough := fun _ h => List.mem_cons_of_mem _ (List.mem_append_right _ h)
set_option maxHeartbeats 4000000 in
set_option maxRecDepth 100000 in
theorem kX3_whoIsOutThrough (l : Launch) (D : va_G) (cy : Nat → ClassId) (hT : Nat) (aT : Nat → Nat) (hG : Nat) (aG : Nat → Nat) (T : dk_O) (G : dk_O) (v1 : Int32) (r : Int32) (hf : fX3_whoIsOutThrough T G v1 = some r) : dk_RdI l yX3_whoIsOutThrough wsX3_whoIsOutThrough ({ frames := 0, cells := 0, slots := 0, locals := 0 }) D cy [.ref hT, .int v1] (wSt cy hT aT hG T ++ wNt cy hG aG G) r := by
  refine Met.ofW (cc := cX3_whoIsOutThrough) (maxL := 3) (ret := (some .int)) (by decide) rfl ?_
  intro p e s m args below meth c s₁ B hml hv
  obtain ⟨rfl, hP, hK⟩ := hv
  have hx := B.exec
  have hb := B.bytes
  have hr := B.returns
  have hts := atoms_spec (ws := wsX3_whoIsOutThrough) B.pre
  have hown : s.vm.findClass RX3 = some m.cls := findClass_of_methodNamed B.named
  have hlocks := B.notSynchronized
  have hl := lv_entry ([.ref hT, .int v1]) (n := 3) (Nat.le_of_ble_eq_true rfl)
  rw [lg_entry_eq]
  generalize (lg_sl ([.ref hT, .int v1]) ++ List.replicate (3 - (lg_sl ([.ref hT, .int v1])).length) Slot.unset).toArray = ls at hl ⊢
  have hl : lv_has ls 3 [(0, .ref hT), (1, .int v1)] := hl
  have L2 : ∀ (fu2 : Nat) (x1 : Int32) (x2 : Int32) (ls : Array Slot), lv_has ls 3 [(0, .ref hT), (1, .int x1), (2, .int x2)] → fX3_whoIsOutThrough_L2 T G fu2 x1 x2 = some r → W p l e (headSpec wsX3_whoIsOutThrough ({ frames := 0, cells := 0, slots := 0, locals := 0 })).room s m ([.ref hT, .int v1]).toArray below meth c s.heap [] 0 0 (MQ below (vp_Si (fun x => x = r)) ([.ref hT, .int v1]).toArray s 0 0 (fun _ => False)) (F0 m 2 ls []) := by
    intro fu2
    induction fu2 with
    | zero =>
      intro x1 x2 ls hl hf
      rw [fX3_whoIsOutThrough_L2] at hf
      cases hf
    | succ fu2 ih2 =>
      intro x1 x2 ls hl hf
      rw [fX3_whoIsOutThrough_L2] at hf
      refine lv_iload_n hx hb dX3_whoIsOutThrough_2 rfl (lv_at hl 2 rfl) ?_
      refine lv_aload_n hx hb dX3_whoIsOutThrough_3 rfl (lv_at hl 0 rfl) ?_
      refine va_get (D := D) (ci := 3) (v := .int (T.1 3)) (C := RX3) (T := TX3) (N := 9) hx hb hts iX3_whoIsOutThrough_X3 hown hK.1 hP 0 rfl rfl 3 (by decide) (hts (.fieldLink RX3 18 "DarkPlace$Stand" "searchers" "I") (List.mem_of_getElem? (i := 1) rfl)) (fun _ h9 => h9) rfl dX3_whoIsOutThrough_4 ?_
      refine dk_cge (tgt := 28) hx hb dX3_whoIsOutThrough_7 (by decide) hf (fun hf => ?_) (fun hf => ?_)
      · refine lv_bipush (v := (-9)) hx hb dX3_whoIsOutThrough_28 (by decide) ?_
        exact W.iret (v := (-9)) hx hb hr (fun t ht hW => ⟨(-9), rfl, Option.some.inj hf, ht⟩) t_nil dX3_whoIsOutThrough_30
      · refine lv_aload_n hx hb dX3_whoIsOutThrough_10 rfl (lv_at hl 0 rfl) ?_
        refine va_get (D := D) (ci := 3) (v := .ref (aT 2)) (C := RX3) (T := TX3) (N := 9) hx hb hts iX3_whoIsOutThrough_X3 hown hK.1 hP 0 rfl rfl 2 (by decide) (hts (.fieldLink RX3 15 "DarkPlace$Stand" "out" "[I") (List.mem_of_getElem? (i := 2) rfl)) (fun _ h9 => h9) rfl dX3_whoIsOutThrough_11 ?_
        refine lv_iload_n hx hb dX3_whoIsOutThrough_14 rfl (lv_at hl 2 rfl) ?_
        refine dk_iald hx hb hK.1 hP 2 0 rfl rfl hf dX3_whoIsOutThrough_15 (fun d15 hf => ?_)
        refine lv_iload_n hx hb dX3_whoIsOutThrough_16 rfl (lv_at hl 1 rfl) ?_
        refine dk_cne (tgt := 22) hx hb dX3_whoIsOutThrough_17 (by decide) hf (fun hf => ?_) (fun hf => ?_)
        · refine lv_iinc (v := x2 + 1) (lv' := [(2, .int (x2 + 1)), (0, .ref hT), (1, .int x1)]) hx hb dX3_whoIsOutThrough_22 hl (k := 2) rfl rfl (by decide) rfl (fun ls hl => ?_)
          refine lv_goto (tgt := 2) hx hb dX3_whoIsOutThrough_25 (by decide) ?_
          exact ih2 x1 (x2 + 1) _ (lv_sub hl [1, 2, 0] rfl) hf
        · refine lv_iload_n hx hb dX3_whoIsOutThrough_20 rfl (lv_at hl 2 rfl) ?_
          exact W.iret (v := x2) hx hb hr (fun t ht hW => ⟨x2, rfl, Option.some.inj hf, ht⟩) t_nil dX3_whoIsOutThrough_21
  unfold fX3_whoIsOutThrough at hf
  refine lv_iconst (v := 0) hx hb dX3_whoIsOutThrough_0 (by decide) ?_
  refine lv_istore_n (lv' := [(2, .int 0), (0, .ref hT), (1, .int v1)]) hx hb dX3_whoIsOutThrough_1 rfl hl (by decide) rfl (fun ls hl => ?_)
  exact L2 1000 v1 0 _ (lv_sub hl [1, 2, 0] rfl) hf
theorem iX3_mayBe_X1 : ∀ w ∈ wsX10, w ∈ wsX3_mayBe := fun _ h => List.mem_cons_of_mem _ (List.mem_append_right _ h)
theorem iX3_mayBe_X3 : ∀ w ∈ wsX30, w ∈ wsX3_mayBe := fun _ h => List.mem_cons_of_mem _ (List.mem_append_left _ (List.mem_append_right _ h))
set_option maxHeartbeats 4000000 in
set_option maxRecDepth 100000 in
theorem kX3_mayBe (l : Launch) (D : va_G) (cy : Nat → ClassId) (hT : Nat) (aT : Nat → Nat) (hG : Nat) (aG : Nat → Nat) (T : dk_O) (G : dk_O)  (r : Int32) (hf : fX3_mayBe T G = some r) : dk_RdI l yX3_mayBe wsX3_mayBe ({ frames := 0, cells := 0, slots := 0, locals := 0 }) D cy [.ref hT] (wSt cy hT aT hG T ++ wNt cy hG aG G) r := by
  refine Met.ofW (cc := cX3_mayBe) (maxL := 1) (ret := (some .int)) (by decide) rfl ?_
  intro p e s m args below meth c s₁ B hml hv
  obtain ⟨rfl, hP, hK⟩ := hv
  have hx := B.exec
  have hb := B.bytes
  have hr := B.returns
  have hts := atoms_spec (ws := wsX3_mayBe) B.pre
  have hown : s.vm.findClass RX3 = some m.cls := findClass_of_methodNamed B.named
  have hlocks := B.notSynchronized
  have hl := lv_entry ([.ref hT]) (n := 1) (Nat.le_of_ble_eq_true rfl)
  rw [lg_entry_eq]
  generalize (lg_sl ([.ref hT]) ++ List.replicate (1 - (lg_sl ([.ref hT])).length) Slot.unset).toArray = ls at hl ⊢
  have hl : lv_has ls 1 [(0, .ref hT)] := hl
  unfold fX3_mayBe at hf
  refine lv_iconst (v := 1) hx hb dX3_mayBe_0 (by decide) ?_
  refine lv_aload_n hx hb dX3_mayBe_1 rfl (lv_at hl 0 rfl) ?_
  refine va_get (D := D) (ci := 3) (v := .ref hG) (C := RX3) (T := TX3) (N := 9) hx hb hts iX3_mayBe_X3 hown hK.1 hP 0 rfl rfl 0 (by decide) (hts (.fieldLink RX3 37 "DarkPlace$Stand" "net" "LDarkPlace$Net;") (List.mem_of_getElem? (i := 1) rfl)) (fun _ h9 => h9) rfl dX3_mayBe_2 ?_
  refine va_getN (D := D) (ci := 1) (v := .int (G.1 0)) (C := RX1) (T := TX1) (N := 9) hx hb hts iX3_mayBe_X1 hown hK.1 hP 3 rfl rfl 0 (by decide) (va_Nw.use rfl (hK.2 (.fieldLinkNest "DarkPlace$Stand" 89 "DarkPlace$Net" "places" "I" "DarkPlace") (List.mem_of_getElem? (i := 1) rfl))) (fun _ h9 => h9) rfl dX3_mayBe_5 ?_
  refine lv_ishl hx hb dX3_mayBe_8 ?_
  refine lv_iconst (v := 1) hx hb dX3_mayBe_9 (by decide) ?_
  refine lv_isub hx hb dX3_mayBe_10 ?_
  refine lv_aload_n hx hb dX3_mayBe_11 rfl (lv_at hl 0 rfl) ?_
  refine va_get (D := D) (ci := 3) (v := .int (T.1 8)) (C := RX3) (T := TX3) (N := 9) hx hb hts iX3_mayBe_X3 hown hK.1 hP 0 rfl rfl 8 (by decide) (hts (.fieldLink RX3 34 "DarkPlace$Stand" "visited" "I") (List.mem_of_getElem? (i := 2) rfl)) (fun _ h9 => h9) rfl dX3_mayBe_12 ?_
  refine lv_iconst (v := (-1)) hx hb dX3_mayBe_15 (by decide) ?_
  refine lv_ixor hx hb dX3_mayBe_16 ?_
  refine lv_iand hx hb dX3_mayBe_17 ?_
  exact W.iret (v := (((1 : Int32) <<< ((G.1 0) &&& 31)) - 1) &&& ((T.1 8) ^^^ (-1))) hx hb hr (fun t ht hW => ⟨(((1 : Int32) <<< ((G.1 0) &&& 31)) - 1) &&& ((T.1 8) ^^^ (-1)), rfl, Option.some.inj hf, ht⟩) t_nil dX3_mayBe_18
set_option maxHeartbeats 4000000 in
set_option maxRecDepth 100000 in
theorem kX3_isKnown (l : Launch) (D : va_G) (cy : Nat → ClassId) (hT : Nat) (aT : Nat → Nat) (hG : Nat) (aG : Nat → Nat) (T : dk_O) (G : dk_O)  (r : Int32) (hf : fX3_isKnown T G = some r) : dk_RdI l yX3_isKnown wsX3_isKnown ({ frames := 1, cells := 0, slots := 0, locals := 20 }) D cy [.ref hT] (wSt cy hT aT hG T ++ wNt cy hG aG G) r := by
  refine Met.ofW (cc := cX3_isKnown) (maxL := 1) (ret := (some .boolean)) (by decide) rfl ?_
  intro p e s m args below meth c s₁ B hml hv
  obtain ⟨rfl, hP, hK⟩ := hv
  have hx := B.exec
  have hb := B.bytes
  have hr := B.returns
  have hts := atoms_spec (ws := wsX3_isKnown) B.pre
  have hown : s.vm.findClass RX3 = some m.cls := findClass_of_methodNamed B.named
  have hlocks := B.notSynchronized
  have hl := lv_entry ([.ref hT]) (n := 1) (Nat.le_of_ble_eq_true rfl)
  rw [lg_entry_eq]
  generalize (lg_sl ([.ref hT]) ++ List.replicate (1 - (lg_sl ([.ref hT])).length) Slot.unset).toArray = ls at hl ⊢
  have hl : lv_has ls 1 [(0, .ref hT)] := hl
  unfold fX3_isKnown at hf
  refine lv_aload_n hx hb dX3_isKnown_0 rfl (lv_at hl 0 rfl) ?_
  obtain ⟨r1, k1, hf⟩ := dk_bind hf
  refine dk_ri (va_runV (As := []) (rest := []) ⟨hx, hb, hml, hown, hts⟩ (kX3_mayBe l D cy hT aT hG aG T G r1 k1) (cwV 0 hts gX3_isKnown_X3_mayBe rfl rfl rfl (by decide +kernel) ⟨Nat.le_of_ble_eq_true rfl, Nat.le_of_ble_eq_true rfl⟩) (dk_preV hK (hP.sub (ws' := wSt cy hT aT hG T ++ wNt cy hG aG G) [0, 1, 2, 3, 4, 5, 6] rfl) (ci := 3) (q0 := 0) rfl rfl) rfl rfl hl.1 rfl (lv_room (Nat.le_of_ble_eq_true rfl)) dX3_isKnown_1 ⟨Nat.zero_le _, Nat.zero_le _⟩) ?_
  obtain ⟨r4, k4, hf⟩ := dk_bind hf
  refine dk_ri (va_runS (As := [.int r1]) (rest := []) ⟨hx, hb, hml, hown, hts⟩ (kJ6_bitCount_0f7a4 l D cy r1 r4 k4) (va_cwS 1 hts gX3_isKnown_J6_bitCount_0f7a4 rfl rfl rfl (by decide +kernel) ⟨Nat.le_of_ble_eq_true rfl, Nat.le_of_ble_eq_true rfl⟩) (dk_preS hK (hP.sub (ws' := []) [] rfl)) rfl rfl hl.1 rfl (lv_room (Nat.le_of_ble_eq_true rfl)) dX3_isKnown_4 ⟨Nat.zero_le _, Nat.zero_le _⟩) ?_
  refine lv_iconst (v := 1) hx hb dX3_isKnown_7 (by decide) ?_
  refine dk_cne (tgt := 15) hx hb dX3_isKnown_8 (by decide) hf (fun hf => ?_) (fun hf => ?_)
  · refine lv_iconst (v := 0) hx hb dX3_isKnown_15 (by decide) ?_
    exact W.zret (v := 0) hx hb hr rfl (fun t ht hW => ⟨0, rfl, Option.some.inj hf, ht⟩) t_nil dX3_isKnown_16
  · refine lv_iconst (v := 1) hx hb dX3_isKnown_11 (by decide) ?_
    refine lv_goto (tgt := 16) hx hb dX3_isKnown_12 (by decide) ?_
    exact W.zret (v := 1) hx hb hr rfl (fun t ht hW => ⟨1, rfl, Option.some.inj hf, ht⟩) t_nil dX3_isKnown_16
set_option maxHeartbeats 4000000 in
set_option maxRecDepth 100000 in
theorem kX3_isKnownAt (l : Launch) (D : va_G) (cy : Nat → ClassId) (hT : Nat) (aT : Nat → Nat) (hG : Nat) (aG : Nat → Nat) (T : dk_O) (G : dk_O) (v1 : Int32) (r : Int32) (hf : fX3_isKnownAt T G v1 = some r) : dk_RdI l yX3_isKnownAt wsX3_isKnownAt ({ frames := 2, cells := 0, slots := 0, locals := 40 }) D cy [.ref hT, .int v1] (wSt cy hT aT hG T ++ wNt cy hG aG G) r := by
  refine Met.ofW (cc := cX3_isKnownAt) (maxL := 2) (ret := (some .boolean)) (by decide) rfl ?_
  intro p e s m args below meth c s₁ B hml hv
  obtain ⟨rfl, hP, hK⟩ := hv
  have hx := B.exec
  have hb := B.bytes
  have hr := B.returns
  have hts := atoms_spec (ws := wsX3_isKnownAt) B.pre
  have hown : s.vm.findClass RX3 = some m.cls := findClass_of_methodNamed B.named
  have hlocks := B.notSynchronized
  have hl := lv_entry ([.ref hT, .int v1]) (n := 2) (Nat.le_of_ble_eq_true rfl)
  rw [lg_entry_eq]
  generalize (lg_sl ([.ref hT, .int v1]) ++ List.replicate (2 - (lg_sl ([.ref hT, .int v1])).length) Slot.unset).toArray = ls at hl ⊢
  have hl : lv_has ls 2 [(0, .ref hT), (1, .int v1)] := hl
  unfold fX3_isKnownAt at hf
  refine lv_aload_n hx hb dX3_isKnownAt_0 rfl (lv_at hl 0 rfl) ?_
  obtain ⟨r1, k1, hf⟩ := dk_bind hf
  refine dk_ri (va_runV (As := []) (rest := []) ⟨hx, hb, hml, hown, hts⟩ (kX3_isKnown l D cy hT aT hG aG T G r1 k1) (cwV 0 hts gX3_isKnownAt_X3_isKnown rfl rfl rfl (by decide +kernel) ⟨Nat.le_of_ble_eq_true rfl, Nat.le_of_ble_eq_true rfl⟩) (dk_preV hK (hP.sub (ws' := wSt cy hT aT hG T ++ wNt cy hG aG G) [0, 1, 2, 3, 4, 5, 6] rfl) (ci := 3) (q0 := 0) rfl rfl) rfl rfl hl.1 rfl (lv_room (Nat.le_of_ble_eq_true rfl)) dX3_isKnownAt_1 ⟨Nat.zero_le _, Nat.zero_le _⟩) ?_
  refine dk_ieq (tgt := 22) hx hb dX3_isKnownAt_4 (by decide) hf (fun hf => ?_) (fun hf => ?_)
  · refine lv_iconst (v := 0) hx hb dX3_isKnownAt_22 (by decide) ?_
    exact W.zret (v := 0) hx hb hr rfl (fun t ht hW => ⟨0, rfl, Option.some.inj hf, ht⟩) t_nil dX3_isKnownAt_23
  · refine lv_aload_n hx hb dX3_isKnownAt_7 rfl (lv_at hl 0 rfl) ?_
    obtain ⟨r8, k8, hf⟩ := dk_bind hf
    refine dk_ri (va_runV (As := []) (rest := []) ⟨hx, hb, hml, hown, hts⟩ (kX3_mayBe l D cy hT aT hG aG T G r8 k8) (cwV 0 hts gX3_isKnownAt_X3_mayBe rfl rfl rfl (by decide +kernel) ⟨Nat.le_of_ble_eq_true rfl, Nat.le_of_ble_eq_true rfl⟩) (dk_preV hK (hP.sub (ws' := wSt cy hT aT hG T ++ wNt cy hG aG G) [0, 1, 2, 3, 4, 5, 6] rfl) (ci := 3) (q0 := 0) rfl rfl) rfl rfl hl.1 rfl (lv_room (Nat.le_of_ble_eq_true rfl)) dX3_isKnownAt_8 ⟨Nat.zero_le _, Nat.zero_le _⟩) ?_
    refine lv_iload_n hx hb dX3_isKnownAt_11 rfl (lv_at hl 1 rfl) ?_
    obtain ⟨r12, k12, hf⟩ := dk_bind hf
    refine dk_ri (va_runSN (As := [.int r8, .int v1]) (rest := []) ⟨hx, hb, hml, hown, hts⟩ (kX5_holds l D cy r8 v1 r12 k12) ⟨va_cnB 2 hts gX3_isKnownAt_X5_holds_n85 rfl rfl rfl (hK.2 (.methodLinkNest "DarkPlace$Stand" 85 ⟨"DarkPlace", "holds", "(II)Z"⟩ "DarkPlace") (List.mem_of_getElem? (i := 21) rfl)) (hts (.initialized RX5) (List.mem_of_getElem? (i := 20) rfl)) (by decide +kernel) ⟨Nat.le_of_ble_eq_true rfl, Nat.le_of_ble_eq_true rfl⟩, (hts (.static yX5_holds) (List.mem_of_getElem? (i := 19) rfl)), trivial⟩ (dk_preS hK (hP.sub (ws' := []) [] rfl)) rfl rfl hl.1 rfl (lv_room (Nat.le_of_ble_eq_true rfl)) dX3_isKnownAt_12 ⟨Nat.zero_le _, Nat.zero_le _⟩) ?_
    refine dk_ieq (tgt := 22) hx hb dX3_isKnownAt_15 (by decide) hf (fun hf => ?_) (fun hf => ?_)
    · refine lv_iconst (v := 0) hx hb dX3_isKnownAt_22 (by decide) ?_
      exact W.zret (v := 0) hx hb hr rfl (fun t ht hW => ⟨0, rfl, Option.some.inj hf, ht⟩) t_nil dX3_isKnownAt_23
    · refine lv_iconst (v := 1) hx hb dX3_isKnownAt_18 (by decide) ?_
      refine lv_goto (tgt := 23) hx hb dX3_isKnownAt_19 (by decide) ?_
      exact W.zret (v := 1) hx hb hr rfl (fun t ht hW => ⟨1, rfl, Option.some.inj hf, ht⟩) t_nil dX3_isKnownAt_23
theorem iX3_fated_X3 : ∀ w ∈ wsX30, w ∈ wsX3_fated := fun _ h => List.mem_cons_of_mem _ (List.mem_append_left _ (List.mem_append_right _ h))
set_option maxHeartbeats 4000000 in
set_option maxRecDepth 100000 in
theorem kX3_fated (l : Launch) (D : va_G) (cy : Nat → ClassId) (hT : Nat) (aT : Nat → Nat) (hG : Nat) (aG : Nat → Nat) (T : dk_O) (G : dk_O)  (r : Int32) (hf : fX3_fated T G = some r) : dk_RdI l yX3_fated wsX3_fated ({ frames := 1, cells := 0, slots := 0, locals := 20 }) D cy [.ref hT] (wSt cy hT aT hG T ++ wNt cy hG aG G) r := by
  refine Met.ofW (cc := cX3_fated) (maxL := 3) (ret := (some .int)) (by decide) rfl ?_
  intro p e s m args below meth c s₁ B hml hv
  obtain ⟨rfl, hP, hK⟩ := hv
  have hx := B.exec
  have hb := B.bytes
  have hr := B.returns
  have hts := atoms_spec (ws := wsX3_fated) B.pre
  have hown : s.vm.findClass RX3 = some m.cls := findClass_of_methodNamed B.named
  have hlocks := B.notSynchronized
  have hl := lv_entry ([.ref hT]) (n := 3) (Nat.le_of_ble_eq_true rfl)
  rw [lg_entry_eq]
  generalize (lg_sl ([.ref hT]) ++ List.replicate (3 - (lg_sl ([.ref hT])).length) Slot.unset).toArray = ls at hl ⊢
  have hl : lv_has ls 3 [(0, .ref hT)] := hl
  have L7 : ∀ (fu7 : Nat) (x1 : Int32) (x2 : Int32) (ls : Array Slot), lv_has ls 3 [(0, .ref hT), (1, .int x1), (2, .int x2)] → fX3_fated_L7 T G fu7 x1 x2 = some r → W p l e (headSpec wsX3_fated ({ frames := 1, cells := 0, slots := 0, locals := 20 })).room s m ([.ref hT]).toArray below meth c s.heap [] 0 0 (MQ below (vp_Si (fun x => x = r)) ([.ref hT]).toArray s 0 0 (fun _ => False)) (F0 m 7 ls []) := by
    intro fu7
    induction fu7 with
    | zero =>
      intro x1 x2 ls hl hf
      rw [fX3_fated_L7] at hf
      cases hf
    | succ fu7 ih7 =>
      intro x1 x2 ls hl hf
      rw [fX3_fated_L7] at hf
      refine lv_iload_n hx hb dX3_fated_7 rfl (lv_at hl 2 rfl) ?_
      refine lv_aload_n hx hb dX3_fated_8 rfl (lv_at hl 0 rfl) ?_
      refine va_get (D := D) (ci := 3) (v := .int (T.1 3)) (C := RX3) (T := TX3) (N := 9) hx hb hts iX3_fated_X3 hown hK.1 hP 0 rfl rfl 3 (by decide) (hts (.fieldLink RX3 18 "DarkPlace$Stand" "searchers" "I") (List.mem_of_getElem? (i := 1) rfl)) (fun _ h9 => h9) rfl dX3_fated_9 ?_
      refine dk_cge (tgt := 45) hx hb dX3_fated_12 (by decide) hf (fun hf => ?_) (fun hf => ?_)
      · refine lv_iload_n hx hb dX3_fated_45 rfl (lv_at hl 1 rfl) ?_
        exact W.iret (v := x1) hx hb hr (fun t ht hW => ⟨x1, rfl, Option.some.inj hf, ht⟩) t_nil dX3_fated_46
      · refine lv_aload_n hx hb dX3_fated_15 rfl (lv_at hl 0 rfl) ?_
        refine va_get (D := D) (ci := 3) (v := .ref (aT 1)) (C := RX3) (T := TX3) (N := 9) hx hb hts iX3_fated_X3 hown hK.1 hP 0 rfl rfl 1 (by decide) (hts (.fieldLink RX3 9 "DarkPlace$Stand" "at" "[I") (List.mem_of_getElem? (i := 2) rfl)) (fun _ h9 => h9) rfl dX3_fated_16 ?_
        refine lv_iload_n hx hb dX3_fated_19 rfl (lv_at hl 2 rfl) ?_
        refine dk_iald hx hb hK.1 hP 1 0 rfl rfl hf dX3_fated_20 (fun d20 hf => ?_)
        refine lv_bipush (v := (-9)) hx hb dX3_fated_21 (by decide) ?_
        refine dk_ceq (tgt := 39) hx hb dX3_fated_23 (by decide) hf (fun hf => ?_) (fun hf => ?_)
        · refine lv_iinc (v := x2 + 1) (lv' := [(2, .int (x2 + 1)), (0, .ref hT), (1, .int x1)]) hx hb dX3_fated_39 hl (k := 2) rfl rfl (by decide) rfl (fun ls hl => ?_)
          refine lv_goto (tgt := 7) hx hb dX3_fated_42 (by decide) ?_
          exact ih7 x1 (x2 + 1) _ (lv_sub hl [1, 2, 0] rfl) hf
        · refine lv_iload_n hx hb dX3_fated_26 rfl (lv_at hl 1 rfl) ?_
          refine lv_iconst (v := 1) hx hb dX3_fated_27 (by decide) ?_
          refine lv_aload_n hx hb dX3_fated_28 rfl (lv_at hl 0 rfl) ?_
          refine va_get (D := D) (ci := 3) (v := .ref (aT 1)) (C := RX3) (T := TX3) (N := 9) hx hb hts iX3_fated_X3 hown hK.1 hP 0 rfl rfl 1 (by decide) (hts (.fieldLink RX3 9 "DarkPlace$Stand" "at" "[I") (List.mem_of_getElem? (i := 2) rfl)) (fun _ h9 => h9) rfl dX3_fated_29 ?_
          refine lv_iload_n hx hb dX3_fated_32 rfl (lv_at hl 2 rfl) ?_
          refine dk_iald hx hb hK.1 hP 1 0 rfl rfl hf dX3_fated_33 (fun d33 hf => ?_)
          refine lv_ishl hx hb dX3_fated_34 ?_
          refine lv_iconst (v := (-1)) hx hb dX3_fated_35 (by decide) ?_
          refine lv_ixor hx hb dX3_fated_36 ?_
          refine lv_iand hx hb dX3_fated_37 ?_
          refine lv_istore_n (lv' := [(1, .int (x1 &&& (((1 : Int32) <<< (d33 &&& 31)) ^^^ (-1)))), (0, .ref hT), (2, .int x2)]) hx hb dX3_fated_38 rfl hl (by decide) rfl (fun ls hl => ?_)
          refine lv_iinc (v := x2 + 1) (lv' := [(2, .int (x2 + 1)), (1, .int (x1 &&& (((1 : Int32) <<< (d33 &&& 31)) ^^^ (-1)))), (0, .ref hT)]) hx hb dX3_fated_39 hl (k := 2) rfl rfl (by decide) rfl (fun ls hl => ?_)
          refine lv_goto (tgt := 7) hx hb dX3_fated_42 (by decide) ?_
          exact ih7 (x1 &&& (((1 : Int32) <<< (d33 &&& 31)) ^^^ (-1))) (x2 + 1) _ (lv_sub hl [2, 1, 0] rfl) hf
  unfold fX3_fated at hf
  refine lv_aload_n hx hb dX3_fated_0 rfl (lv_at hl 0 rfl) ?_
  obtain ⟨r1, k1, hf⟩ := dk_bind hf
  refine dk_ri (va_runV (As := []) (rest := []) ⟨hx, hb, hml, hown, hts⟩ (kX3_mayBe l D cy hT aT hG aG T G r1 k1) (cwV 0 hts gX3_fated_X3_mayBe rfl rfl rfl (by decide +kernel) ⟨Nat.le_of_ble_eq_true rfl, Nat.le_of_ble_eq_true rfl⟩) (dk_preV hK (hP.sub (ws' := wSt cy hT aT hG T ++ wNt cy hG aG G) [0, 1, 2, 3, 4, 5, 6] rfl) (ci := 3) (q0 := 0) rfl rfl) rfl rfl hl.1 rfl (lv_room (Nat.le_of_ble_eq_true rfl)) dX3_fated_1 ⟨Nat.zero_le _, Nat.zero_le _⟩) ?_
  refine lv_istore_n (lv' := [(1, .int r1), (0, .ref hT)]) hx hb dX3_fated_4 rfl hl (by decide) rfl (fun ls hl => ?_)
  refine lv_iconst (v := 0) hx hb dX3_fated_5 (by decide) ?_
  refine lv_istore_n (lv' := [(2, .int 0), (1, .int r1), (0, .ref hT)]) hx hb dX3_fated_6 rfl hl (by decide) rfl (fun ls hl => ?_)
  exact L7 1000 r1 0 _ (lv_sub hl [2, 1, 0] rfl) hf
