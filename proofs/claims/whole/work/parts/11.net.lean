-- printed by wip/gen (walks of the bytecode)
theorem iX1_allEdges_X1 : ∀ w ∈ wsX10, w ∈ wsX1_allEdges := fun _ h => List.mem_cons_of_mem _ (List.mem_append_right _ h)
set_option maxHeartbeats 4000000 in
set_option maxRecDepth 100000 in
theorem kX1_allEdges (l : Launch) (D : va_G) (cy : Nat → ClassId) (hG : Nat) (aG : Nat → Nat) (G : dk_O)  (r : Int32) (hf : fX1_allEdges G = some r) : dk_RdI l yX1_allEdges wsX1_allEdges ({ frames := 0, cells := 0, slots := 0, locals := 0 }) D cy [.ref hG] (wNt cy hG aG G) r := by
  refine Met.ofW (cc := cX1_allEdges) (maxL := 1) (ret := (some .int)) (by decide) rfl ?_
  intro p e s m args below meth c s₁ B hml hv
  obtain ⟨rfl, hP, hK⟩ := hv
  have hx := B.exec
  have hb := B.bytes
  have hr := B.returns
  have hts := atoms_spec (ws := wsX1_allEdges) B.pre
  have hown : s.vm.findClass RX1 = some m.cls := findClass_of_methodNamed B.named
  have hlocks := B.notSynchronized
  have hl := lv_entry ([.ref hG]) (n := 1) (Nat.le_of_ble_eq_true rfl)
  rw [lg_entry_eq]
  generalize (lg_sl ([.ref hG]) ++ List.replicate (1 - (lg_sl ([.ref hG])).length) Slot.unset).toArray = ls at hl ⊢
  have hl : lv_has ls 1 [(0, .ref hG)] := hl
  unfold fX1_allEdges at hf
  refine lv_iconst (v := 1) hx hb dX1_allEdges_0 (by decide) ?_
  refine lv_aload_n hx hb dX1_allEdges_1 rfl (lv_at hl 0 rfl) ?_
  refine va_get (D := D) (ci := 1) (v := .int (G.1 4)) (C := RX1) (T := TX1) (N := 9) hx hb hts iX1_allEdges_X1 hown hK.1 hP 0 rfl rfl 4 (by decide) (hts (.fieldLink RX1 24 "DarkPlace$Net" "edges" "I") (List.mem_of_getElem? (i := 1) rfl)) (fun _ h9 => h9) rfl dX1_allEdges_2 ?_
  refine lv_ishl hx hb dX1_allEdges_5 ?_
  refine lv_iconst (v := 1) hx hb dX1_allEdges_6 (by decide) ?_
  refine lv_isub hx hb dX1_allEdges_7 ?_
  exact W.iret (v := ((1 : Int32) <<< ((G.1 4) &&& 31)) - 1) hx hb hr (fun t ht hW => ⟨((1 : Int32) <<< ((G.1 4) &&& 31)) - 1, rfl, Option.some.inj hf, ht⟩) t_nil dX1_allEdges_8
theorem iX1_clear_X1 : ∀ w ∈ wsX10, w ∈ wsX1_clear := fun _ h => List.mem_cons_of_mem _ (List.mem_append_right _ h)
set_option maxHeartbeats 4000000 in
set_option maxRecDepth 100000 in
theorem kX1_clear (l : Launch) (D : va_G) (cy : Nat → ClassId) (hG : Nat) (aG : Nat → Nat) (sz : Nat) (G : dk_O)  (oG_I : (Nat → Int32)) (oG_6 : (Nat → Int32)) (oG_8 : (Nat → Int32)) (hf : fX1_clear G = some (oG_I, oG_6, oG_8)) : dk_MuV l yX1_clear wsX1_clear ({ frames := 1, cells := 0, slots := 0, locals := 23 }) D cy [.ref hG] (wNt cy hG aG G) (wNt cy hG aG (oG_I, dk_upA (dk_upA G.2 6 oG_6) 8 oG_8)) sz := by
  refine Met.ofW (cc := cX1_clear) (maxL := 1) (ret := none) (by decide) rfl ?_
  intro p e s m args below meth c s₁ B hml hv
  obtain ⟨rfl, hsz, hP, hK, hD0⟩ := hv
  have hx := B.exec
  have hb := B.bytes
  have hr := B.returns
  have hts := atoms_spec (ws := wsX1_clear) B.pre
  have hown : s.vm.findClass RX1 = some m.cls := findClass_of_methodNamed B.named
  have hlocks := B.notSynchronized
  subst hsz
  have hD := hD0.self (sz := s.heap.size)
  generalize hAe : va_A (wNt cy hG aG G) s.heap.size = A at hD ⊢
  have hA : ∀ q : Nat, s.heap.size ≤ q → A q := fun q h => by rw [← hAe]; exact Or.inr h
  have hS : va_S A s.heap s.heap [] := va_S.rf
  have hl := lv_entry ([.ref hG]) (n := 1) (Nat.le_of_ble_eq_true rfl)
  rw [lg_entry_eq]
  generalize (lg_sl ([.ref hG]) ++ List.replicate (1 - (lg_sl ([.ref hG])).length) Slot.unset).toArray = ls at hl ⊢
  have hl : lv_has ls 1 [(0, .ref hG)] := hl
  unfold fX1_clear at hf
  refine lv_aload_n hx hb dX1_clear_0 rfl (lv_at hl 0 rfl) ?_
  refine lv_iconst (v := 0) hx hb dX1_clear_1 (by decide) ?_
  refine va_put (D := D) (ci := 1) (v := .int 0) (ty := .int) (C := RX1) (T := TX1) (N := 9) hx hb hts iX1_clear_X1 tyX1 tyX1_ok nmX1 hown hK.1 hP hD hS 0 rfl rfl 4 (by decide) (hts (.fieldLink RX1 24 "DarkPlace$Net" "edges" "I") (List.mem_of_getElem? (i := 1) rfl)) (fun _ h9 => h9) rfl (by decide +kernel) rfl rfl (Nat.le_of_ble_eq_true rfl) dX1_clear_2 (fun H locs hP hD hS => ?_)
  have hP : va_P D vwCl (wNt cy hG aG (upd G.1 4 0, G.2)) H := hP
  have hD : va_D A (wNt cy hG aG (upd G.1 4 0, G.2)) := hD
  refine lv_aload_n hx hb dX1_clear_5 rfl (lv_at hl 0 rfl) ?_
  refine va_get (D := D) (ci := 1) (v := .ref (aG 6)) (C := RX1) (T := TX1) (N := 9) hx hb hts iX1_clear_X1 hown hK.1 hP 0 rfl rfl 6 (by decide) (hts (.fieldLink RX1 31 "DarkPlace$Net" "edgesAt" "[I") (List.mem_of_getElem? (i := 2) rfl)) (fun _ h9 => h9) rfl dX1_clear_6 ?_
  refine lv_iconst (v := 0) hx hb dX1_clear_9 (by decide) ?_
  obtain ⟨g10_0, k10, hf⟩ := dk_bind hf
  have hPc := hP.sub (ws' := wRw cy (aG 6) 8 (G.2 6)) [2] rfl
  have hDc := hD.sub (ws' := wRw cy (aG 6) 8 (G.2 6)) [2] (by decide) rfl
  have hFc := va_free (wc := wRw cy (aG 6) 8 (G.2 6)) hD hS hA [2] rfl
  refine va_callv (va_runS (As := [.ref (aG 6), .int 0]) (rest := []) ⟨hx, hb, hml, hown, hts⟩ (kJ7_fill_53178 l D cy (aG 6) 8 H.size (G.2 6) 0 g10_0 k10) (va_cwS 2 hts gX1_clear_J7_fill_53178 rfl rfl rfl (by decide +kernel) ⟨Nat.le_of_ble_eq_true rfl, Nat.le_of_ble_eq_true rfl⟩) (dk_premS hK hPc hDc) rfl rfl hl.1 rfl (lv_room (Nat.le_of_ble_eq_true rfl)) dX1_clear_10 ⟨Nat.zero_le _, Nat.zero_le _⟩) hS (fun q _ h => hFc q h) hFc (fun u t H1 locs ht hvm hw hB hz1 hk1 hS => ?_)
  obtain ⟨hP1, hD1⟩ := hB
  rw [ht] at hP1
  obtain ⟨hP, hD⟩ := va_join (wr := ([0, 1, 3] : List Nat).filterMap (fun i => (wNt cy hG aG (upd G.1 4 0, G.2))[i]?)) (w1 := wRw cy (aG 6) 8 g10_0) hP hD [2] [0, 1, 3] rfl rfl (by decide) (by decide) hk1 hFc hP1 hD1
  generalize H1 = H at hP hS ⊢
  have hP : va_P D vwCl (wNt cy hG aG (upd G.1 4 0, dk_upA G.2 6 g10_0)) H := hP.sub [0, 1, 3, 2] rfl
  have hD : va_D A (wNt cy hG aG (upd G.1 4 0, dk_upA G.2 6 g10_0)) := hD.sub [0, 1, 3, 2] (by decide) rfl
  refine lv_aload_n hx hb dX1_clear_13 rfl (lv_at hl 0 rfl) ?_
  refine va_get (D := D) (ci := 1) (v := .ref (aG 8)) (C := RX1) (T := TX1) (N := 9) hx hb hts iX1_clear_X1 hown hK.1 hP 0 rfl rfl 8 (by decide) (hts (.fieldLink RX1 37 "DarkPlace$Net" "beside" "[I") (List.mem_of_getElem? (i := 3) rfl)) (fun _ h9 => h9) rfl dX1_clear_14 ?_
  refine lv_iconst (v := 0) hx hb dX1_clear_17 (by decide) ?_
  obtain ⟨g18_0, k18, hf⟩ := dk_bind hf
  have hPc := hP.sub (ws' := wRw cy (aG 8) 8 (G.2 8)) [3] rfl
  have hDc := hD.sub (ws' := wRw cy (aG 8) 8 (G.2 8)) [3] (by decide) rfl
  have hFc := va_free (wc := wRw cy (aG 8) 8 (G.2 8)) hD hS hA [3] rfl
  refine va_callv (va_runS (As := [.ref (aG 8), .int 0]) (rest := []) ⟨hx, hb, hml, hown, hts⟩ (kJ7_fill_53178 l D cy (aG 8) 8 H.size (G.2 8) 0 g18_0 k18) (va_cwS 2 hts gX1_clear_J7_fill_53178 rfl rfl rfl (by decide +kernel) ⟨Nat.le_of_ble_eq_true rfl, Nat.le_of_ble_eq_true rfl⟩) (dk_premS hK hPc hDc) rfl rfl hl.1 rfl (lv_room (Nat.le_of_ble_eq_true rfl)) dX1_clear_18 ⟨Nat.zero_le _, Nat.zero_le _⟩) hS (fun q _ h => hFc q h) hFc (fun u t H1 locs ht hvm hw hB hz1 hk1 hS => ?_)
  obtain ⟨hP1, hD1⟩ := hB
  rw [ht] at hP1
  obtain ⟨hP, hD⟩ := va_join (wr := ([0, 1, 2] : List Nat).filterMap (fun i => (wNt cy hG aG (upd G.1 4 0, dk_upA G.2 6 g10_0))[i]?)) (w1 := wRw cy (aG 8) 8 g18_0) hP hD [3] [0, 1, 2] rfl rfl (by decide) (by decide) hk1 hFc hP1 hD1
  generalize H1 = H at hP hS ⊢
  have hP : va_P D vwCl (wNt cy hG aG (upd G.1 4 0, dk_upA (dk_upA G.2 6 g10_0) 8 g18_0)) H := hP.sub [0, 1, 2, 3] rfl
  have hD : va_D A (wNt cy hG aG (upd G.1 4 0, dk_upA (dk_upA G.2 6 g10_0) 8 g18_0)) := hD.sub [0, 1, 2, 3] (by decide) rfl
  have e := Option.some.inj hf
  simp only [Prod.mk.injEq] at e
  obtain ⟨e0, e1, e2⟩ := e
  subst e0
  subst e1
  subst e2
  exact W.vret hx hb hr (fun t ht hW => ⟨⟨(), rfl, trivial, by rw [ht]; exact hP, hD⟩, hS.F ht⟩) hS.2.2 dX1_clear_21
theorem iX1_become_X1 : ∀ w ∈ wsX10, w ∈ wsX1_become := fun _ h => List.mem_cons_of_mem _ (List.mem_append_right _ h)
set_option maxHeartbeats 4000000 in
set_option maxRecDepth 100000 in
theorem kX1_become (l : Launch) (D : va_G) (cy : Nat → ClassId) (hG : Nat) (aG : Nat → Nat) (hN : Nat) (aN : Nat → Nat) (sz : Nat) (G : dk_O) (N : dk_O)  (oG_I : (Nat → Int32)) (oG_5 : (Nat → Int32)) (oG_6 : (Nat → Int32)) (hf : fX1_become G N = some (oG_I, oG_5, oG_6)) : dk_MuV l yX1_become wsX1_become ({ frames := 1, cells := 0, slots := 0, locals := 60 }) D cy [.ref hG, .ref hN] (wNt cy hG aG G ++ wNt cy hN aN N) (wNt cy hG aG (oG_I, dk_upA (dk_upA G.2 5 oG_5) 6 oG_6) ++ wNt cy hN aN N) sz := by
  refine Met.ofW (cc := cX1_become) (maxL := 2) (ret := none) (by decide) rfl ?_
  intro p e s m args below meth c s₁ B hml hv
  obtain ⟨rfl, hsz, hP, hK, hD0⟩ := hv
  have hx := B.exec
  have hb := B.bytes
  have hr := B.returns
  have hts := atoms_spec (ws := wsX1_become) B.pre
  have hown : s.vm.findClass RX1 = some m.cls := findClass_of_methodNamed B.named
  have hlocks := B.notSynchronized
  subst hsz
  have hD := hD0.self (sz := s.heap.size)
  generalize hAe : va_A (wNt cy hG aG G ++ wNt cy hN aN N) s.heap.size = A at hD ⊢
  have hA : ∀ q : Nat, s.heap.size ≤ q → A q := fun q h => by rw [← hAe]; exact Or.inr h
  have hS : va_S A s.heap s.heap [] := va_S.rf
  have hl := lv_entry ([.ref hG, .ref hN]) (n := 2) (Nat.le_of_ble_eq_true rfl)
  rw [lg_entry_eq]
  generalize (lg_sl ([.ref hG, .ref hN]) ++ List.replicate (2 - (lg_sl ([.ref hG, .ref hN])).length) Slot.unset).toArray = ls at hl ⊢
  have hl : lv_has ls 2 [(0, .ref hG), (1, .ref hN)] := hl
  unfold fX1_become at hf
  refine lv_aload_n hx hb dX1_become_0 rfl (lv_at hl 0 rfl) ?_
  refine lv_aload_n hx hb dX1_become_1 rfl (lv_at hl 1 rfl) ?_
  refine va_get (D := D) (ci := 1) (v := .int (N.1 0)) (C := RX1) (T := TX1) (N := 9) hx hb hts iX1_become_X1 hown hK.1 hP 4 rfl rfl 0 (by decide) (hts (.fieldLink RX1 9 "DarkPlace$Net" "places" "I") (List.mem_of_getElem? (i := 1) rfl)) (fun _ h9 => h9) rfl dX1_become_2 ?_
  refine va_put (D := D) (ci := 1) (v := .int (N.1 0)) (ty := .int) (C := RX1) (T := TX1) (N := 9) hx hb hts iX1_become_X1 tyX1 tyX1_ok nmX1 hown hK.1 hP hD hS 0 rfl rfl 0 (by decide) (hts (.fieldLink RX1 9 "DarkPlace$Net" "places" "I") (List.mem_of_getElem? (i := 1) rfl)) (fun _ h9 => h9) rfl (by decide +kernel) rfl rfl (Nat.le_of_ble_eq_true rfl) dX1_become_5 (fun H locs hP hD hS => ?_)
  have hP : va_P D vwCl (wNt cy hG aG (upd G.1 0 (N.1 0), G.2) ++ wNt cy hN aN N) H := hP
  have hD : va_D A (wNt cy hG aG (upd G.1 0 (N.1 0), G.2) ++ wNt cy hN aN N) := hD
  refine lv_aload_n hx hb dX1_become_8 rfl (lv_at hl 0 rfl) ?_
  refine lv_aload_n hx hb dX1_become_9 rfl (lv_at hl 1 rfl) ?_
  refine va_get (D := D) (ci := 1) (v := .int (N.1 1)) (C := RX1) (T := TX1) (N := 9) hx hb hts iX1_become_X1 hown hK.1 hP 4 rfl rfl 1 (by decide) (hts (.fieldLink RX1 15 "DarkPlace$Net" "home" "I") (List.mem_of_getElem? (i := 2) rfl)) (fun _ h9 => h9) rfl dX1_become_10 ?_
  refine va_put (D := D) (ci := 1) (v := .int (N.1 1)) (ty := .int) (C := RX1) (T := TX1) (N := 9) hx hb hts iX1_become_X1 tyX1 tyX1_ok nmX1 hown hK.1 hP hD hS 0 rfl rfl 1 (by decide) (hts (.fieldLink RX1 15 "DarkPlace$Net" "home" "I") (List.mem_of_getElem? (i := 2) rfl)) (fun _ h9 => h9) rfl (by decide +kernel) rfl rfl (Nat.le_of_ble_eq_true rfl) dX1_become_13 (fun H locs hP hD hS => ?_)
  have hP : va_P D vwCl (wNt cy hG aG (upd (upd G.1 0 (N.1 0)) 1 (N.1 1), G.2) ++ wNt cy hN aN N) H := hP
  have hD : va_D A (wNt cy hG aG (upd (upd G.1 0 (N.1 0)) 1 (N.1 1), G.2) ++ wNt cy hN aN N) := hD
  refine lv_aload_n hx hb dX1_become_16 rfl (lv_at hl 0 rfl) ?_
  refine lv_aload_n hx hb dX1_become_17 rfl (lv_at hl 1 rfl) ?_
  refine va_get (D := D) (ci := 1) (v := .int (N.1 2)) (C := RX1) (T := TX1) (N := 9) hx hb hts iX1_become_X1 hown hK.1 hP 4 rfl rfl 2 (by decide) (hts (.fieldLink RX1 18 "DarkPlace$Net" "hole" "I") (List.mem_of_getElem? (i := 3) rfl)) (fun _ h9 => h9) rfl dX1_become_18 ?_
  refine va_put (D := D) (ci := 1) (v := .int (N.1 2)) (ty := .int) (C := RX1) (T := TX1) (N := 9) hx hb hts iX1_become_X1 tyX1 tyX1_ok nmX1 hown hK.1 hP hD hS 0 rfl rfl 2 (by decide) (hts (.fieldLink RX1 18 "DarkPlace$Net" "hole" "I") (List.mem_of_getElem? (i := 3) rfl)) (fun _ h9 => h9) rfl (by decide +kernel) rfl rfl (Nat.le_of_ble_eq_true rfl) dX1_become_21 (fun H locs hP hD hS => ?_)
  have hP : va_P D vwCl (wNt cy hG aG (upd (upd (upd G.1 0 (N.1 0)) 1 (N.1 1)) 2 (N.1 2), G.2) ++ wNt cy hN aN N) H := hP
  have hD : va_D A (wNt cy hG aG (upd (upd (upd G.1 0 (N.1 0)) 1 (N.1 1)) 2 (N.1 2), G.2) ++ wNt cy hN aN N) := hD
  refine lv_aload_n hx hb dX1_become_24 rfl (lv_at hl 0 rfl) ?_
  refine lv_aload_n hx hb dX1_become_25 rfl (lv_at hl 1 rfl) ?_
  refine va_get (D := D) (ci := 1) (v := .int (N.1 3)) (C := RX1) (T := TX1) (N := 9) hx hb hts iX1_become_X1 hown hK.1 hP 4 rfl rfl 3 (by decide) (hts (.fieldLink RX1 21 "DarkPlace$Net" "searchers" "I") (List.mem_of_getElem? (i := 4) rfl)) (fun _ h9 => h9) rfl dX1_become_26 ?_
  refine va_put (D := D) (ci := 1) (v := .int (N.1 3)) (ty := .int) (C := RX1) (T := TX1) (N := 9) hx hb hts iX1_become_X1 tyX1 tyX1_ok nmX1 hown hK.1 hP hD hS 0 rfl rfl 3 (by decide) (hts (.fieldLink RX1 21 "DarkPlace$Net" "searchers" "I") (List.mem_of_getElem? (i := 4) rfl)) (fun _ h9 => h9) rfl (by decide +kernel) rfl rfl (Nat.le_of_ble_eq_true rfl) dX1_become_29 (fun H locs hP hD hS => ?_)
  have hP : va_P D vwCl (wNt cy hG aG (upd (upd (upd (upd G.1 0 (N.1 0)) 1 (N.1 1)) 2 (N.1 2)) 3 (N.1 3), G.2) ++ wNt cy hN aN N) H := hP
  have hD : va_D A (wNt cy hG aG (upd (upd (upd (upd G.1 0 (N.1 0)) 1 (N.1 1)) 2 (N.1 2)) 3 (N.1 3), G.2) ++ wNt cy hN aN N) := hD
  refine lv_aload_n hx hb dX1_become_32 rfl (lv_at hl 0 rfl) ?_
  refine lv_aload_n hx hb dX1_become_33 rfl (lv_at hl 1 rfl) ?_
  refine va_get (D := D) (ci := 1) (v := .int (N.1 4)) (C := RX1) (T := TX1) (N := 9) hx hb hts iX1_become_X1 hown hK.1 hP 4 rfl rfl 4 (by decide) (hts (.fieldLink RX1 24 "DarkPlace$Net" "edges" "I") (List.mem_of_getElem? (i := 5) rfl)) (fun _ h9 => h9) rfl dX1_become_34 ?_
  refine va_put (D := D) (ci := 1) (v := .int (N.1 4)) (ty := .int) (C := RX1) (T := TX1) (N := 9) hx hb hts iX1_become_X1 tyX1 tyX1_ok nmX1 hown hK.1 hP hD hS 0 rfl rfl 4 (by decide) (hts (.fieldLink RX1 24 "DarkPlace$Net" "edges" "I") (List.mem_of_getElem? (i := 5) rfl)) (fun _ h9 => h9) rfl (by decide +kernel) rfl rfl (Nat.le_of_ble_eq_true rfl) dX1_become_37 (fun H locs hP hD hS => ?_)
  have hP : va_P D vwCl (wNt cy hG aG (upd (upd (upd (upd (upd G.1 0 (N.1 0)) 1 (N.1 1)) 2 (N.1 2)) 3 (N.1 3)) 4 (N.1 4), G.2) ++ wNt cy hN aN N) H := hP
  have hD : va_D A (wNt cy hG aG (upd (upd (upd (upd (upd G.1 0 (N.1 0)) 1 (N.1 1)) 2 (N.1 2)) 3 (N.1 3)) 4 (N.1 4), G.2) ++ wNt cy hN aN N) := hD
  refine lv_aload_n hx hb dX1_become_40 rfl (lv_at hl 1 rfl) ?_
  refine va_get (D := D) (ci := 1) (v := .ref (aN 5)) (C := RX1) (T := TX1) (N := 9) hx hb hts iX1_become_X1 hown hK.1 hP 4 rfl rfl 5 (by decide) (hts (.fieldLink RX1 27 "DarkPlace$Net" "ends" "[I") (List.mem_of_getElem? (i := 6) rfl)) (fun _ h9 => h9) rfl dX1_become_41 ?_
  refine lv_iconst (v := 0) hx hb dX1_become_44 (by decide) ?_
  refine lv_aload_n hx hb dX1_become_45 rfl (lv_at hl 0 rfl) ?_
  refine va_get (D := D) (ci := 1) (v := .ref (aG 5)) (C := RX1) (T := TX1) (N := 9) hx hb hts iX1_become_X1 hown hK.1 hP 0 rfl rfl 5 (by decide) (hts (.fieldLink RX1 27 "DarkPlace$Net" "ends" "[I") (List.mem_of_getElem? (i := 6) rfl)) (fun _ h9 => h9) rfl dX1_become_46 ?_
  refine lv_iconst (v := 0) hx hb dX1_become_49 (by decide) ?_
  refine lv_bipush (v := 10) hx hb dX1_become_50 (by decide) ?_
  refine va_copyi hx hb (hml.trans hl.1.symm) hown (hts (.methodLink RX1 46 arraycopyName) (List.mem_of_getElem? (i := 7) rfl)) (hts (.native arraycopyName) (List.mem_of_getElem? (i := 8) rfl)) (hts (.static arraycopyName) (List.mem_of_getElem? (i := 9) rfl)) (hts (.initialized "java/lang/System") (List.mem_of_getElem? (i := 10) rfl)) hK.1 hP hD hS 5 1 0 0 rfl rfl rfl rfl rfl (by decide) (by decide) (by decide) (Nat.le_of_ble_eq_true rfl) (Nat.le_of_ble_eq_true rfl) (fun _ _ => rfl) (Nat.le_of_ble_eq_true rfl) (Nat.le_of_ble_eq_true rfl) dX1_become_52 (fun H locs hP hD hS => ?_)
  have hP : va_P D vwCl (wNt cy hG aG (upd (upd (upd (upd (upd G.1 0 (N.1 0)) 1 (N.1 1)) 2 (N.1 2)) 3 (N.1 3)) 4 (N.1 4), dk_upA G.2 5 (va_cpy (N.2 5) (G.2 5) 0 0 10)) ++ wNt cy hN aN N) H := hP
  have hD : va_D A (wNt cy hG aG (upd (upd (upd (upd (upd G.1 0 (N.1 0)) 1 (N.1 1)) 2 (N.1 2)) 3 (N.1 3)) 4 (N.1 4), dk_upA G.2 5 (va_cpy (N.2 5) (G.2 5) 0 0 10)) ++ wNt cy hN aN N) := hD
  refine lv_aload_n hx hb dX1_become_55 rfl (lv_at hl 1 rfl) ?_
  refine va_get (D := D) (ci := 1) (v := .ref (aN 6)) (C := RX1) (T := TX1) (N := 9) hx hb hts iX1_become_X1 hown hK.1 hP 4 rfl rfl 6 (by decide) (hts (.fieldLink RX1 31 "DarkPlace$Net" "edgesAt" "[I") (List.mem_of_getElem? (i := 11) rfl)) (fun _ h9 => h9) rfl dX1_become_56 ?_
  refine lv_iconst (v := 0) hx hb dX1_become_59 (by decide) ?_
  refine lv_aload_n hx hb dX1_become_60 rfl (lv_at hl 0 rfl) ?_
  refine va_get (D := D) (ci := 1) (v := .ref (aG 6)) (C := RX1) (T := TX1) (N := 9) hx hb hts iX1_become_X1 hown hK.1 hP 0 rfl rfl 6 (by decide) (hts (.fieldLink RX1 31 "DarkPlace$Net" "edgesAt" "[I") (List.mem_of_getElem? (i := 11) rfl)) (fun _ h9 => h9) rfl dX1_become_61 ?_
  refine lv_iconst (v := 0) hx hb dX1_become_64 (by decide) ?_
  refine lv_bipush (v := 8) hx hb dX1_become_65 (by decide) ?_
  refine va_copyi hx hb (hml.trans hl.1.symm) hown (hts (.methodLink RX1 46 arraycopyName) (List.mem_of_getElem? (i := 7) rfl)) (hts (.native arraycopyName) (List.mem_of_getElem? (i := 8) rfl)) (hts (.static arraycopyName) (List.mem_of_getElem? (i := 9) rfl)) (hts (.initialized "java/lang/System") (List.mem_of_getElem? (i := 10) rfl)) hK.1 hP hD hS 6 2 0 0 rfl rfl rfl rfl rfl (by decide) (by decide) (by decide) (Nat.le_of_ble_eq_true rfl) (Nat.le_of_ble_eq_true rfl) (fun _ _ => rfl) (Nat.le_of_ble_eq_true rfl) (Nat.le_of_ble_eq_true rfl) dX1_become_67 (fun H locs hP hD hS => ?_)
  have hP : va_P D vwCl (wNt cy hG aG (upd (upd (upd (upd (upd G.1 0 (N.1 0)) 1 (N.1 1)) 2 (N.1 2)) 3 (N.1 3)) 4 (N.1 4), dk_upA (dk_upA G.2 5 (va_cpy (N.2 5) (G.2 5) 0 0 10)) 6 (va_cpy (N.2 6) (G.2 6) 0 0 8)) ++ wNt cy hN aN N) H := hP
  have hD : va_D A (wNt cy hG aG (upd (upd (upd (upd (upd G.1 0 (N.1 0)) 1 (N.1 1)) 2 (N.1 2)) 3 (N.1 3)) 4 (N.1 4), dk_upA (dk_upA G.2 5 (va_cpy (N.2 5) (G.2 5) 0 0 10)) 6 (va_cpy (N.2 6) (G.2 6) 0 0 8)) ++ wNt cy hN aN N) := hD
  have e := Option.some.inj hf
  simp only [Prod.mk.injEq] at e
  obtain ⟨e0, e1, e2⟩ := e
  subst e0
  subst e1
  subst e2
  exact W.vret hx hb hr (fun t ht hW => ⟨⟨(), rfl, trivial, by rw [ht]; exact hP, hD⟩, hS.F ht⟩) hS.2.2 dX1_become_70
set_option maxHeartbeats 4000000 in
set_option maxRecDepth 100000 in
theorem kX1_mayEndAt (l : Launch) (D : va_G) (cy : Nat → ClassId)   (v0 : Int32) (r : Int32) (hf : fX1_mayEndAt v0 = some r) : dk_RdI l yX1_mayEndAt wsX1_mayEndAt ({ frames := 0, cells := 0, slots := 0, locals := 0 }) D cy [.int v0] (([] : va_W)) r := by
  refine Met.ofW (cc := cX1_mayEndAt) (maxL := 1) (ret := (some .boolean)) (by decide) rfl ?_
  intro p e s m args below meth c s₁ B hml hv
  obtain ⟨rfl, hP, hK⟩ := hv
  have hx := B.exec
  have hb := B.bytes
  have hr := B.returns
  have hts := atoms_spec (ws := wsX1_mayEndAt) B.pre
  have hown : s.vm.findClass RX1 = some m.cls := findClass_of_methodNamed B.named
  have hlocks := B.notSynchronized
  have hl := lv_entry ([.int v0]) (n := 1) (Nat.le_of_ble_eq_true rfl)
  rw [lg_entry_eq]
  generalize (lg_sl ([.int v0]) ++ List.replicate (1 - (lg_sl ([.int v0])).length) Slot.unset).toArray = ls at hl ⊢
  have hl : lv_has ls 1 [(0, .int v0)] := hl
  unfold fX1_mayEndAt at hf
  refine lv_iload_n hx hb dX1_mayEndAt_0 rfl (lv_at hl 0 rfl) ?_
  refine lv_iconst (v := 5) hx hb dX1_mayEndAt_1 (by decide) ?_
  refine dk_clt (tgt := 17) hx hb dX1_mayEndAt_2 (by decide) hf (fun hf => ?_) (fun hf => ?_)
  · refine lv_iconst (v := 0) hx hb dX1_mayEndAt_17 (by decide) ?_
    exact W.zret (v := 0) hx hb hr rfl (fun t ht hW => ⟨0, rfl, Option.some.inj hf, ht⟩) t_nil dX1_mayEndAt_18
  · refine lv_iload_n hx hb dX1_mayEndAt_5 rfl (lv_at hl 0 rfl) ?_
    refine lv_iconst (v := 5) hx hb dX1_mayEndAt_6 (by decide) ?_
    refine lv_isub hx hb dX1_mayEndAt_7 ?_
    refine lv_iconst (v := 3) hx hb dX1_mayEndAt_8 (by decide) ?_
    refine lv_irem hx hb dX1_mayEndAt_9 (by decide) ?_
    refine dk_ine (tgt := 17) hx hb dX1_mayEndAt_10 (by decide) hf (fun hf => ?_) (fun hf => ?_)
    · refine lv_iconst (v := 0) hx hb dX1_mayEndAt_17 (by decide) ?_
      exact W.zret (v := 0) hx hb hr rfl (fun t ht hW => ⟨0, rfl, Option.some.inj hf, ht⟩) t_nil dX1_mayEndAt_18
    · refine lv_iconst (v := 1) hx hb dX1_mayEndAt_13 (by decide) ?_
      refine lv_goto (tgt := 18) hx hb dX1_mayEndAt_14 (by decide) ?_
      exact W.zret (v := 1) hx hb hr rfl (fun t ht hW => ⟨1, rfl, Option.some.inj hf, ht⟩) t_nil dX1_mayEndAt_18
theorem iX1_isPlace_X1 : ∀ w ∈ wsX10, w ∈ wsX1_isPlace := fun _ h => List.mem_cons_of_mem _ (List.mem_append_right _ h)
set_option maxHeartbeats 4000000 in
set_option maxRecDepth 100000 in
theorem kX1_isPlace (l : Launch) (D : va_G) (cy : Nat → ClassId) (hG : Nat) (aG : Nat → Nat) (G : dk_O) (v1 : Int32) (r : Int32) (hf : fX1_isPlace G v1 = some r) : dk_RdI l yX1_isPlace wsX1_isPlace ({ frames := 0, cells := 0, slots := 0, locals := 0 }) D cy [.ref hG, .int v1] (wNt cy hG aG G) r := by
  refine Met.ofW (cc := cX1_isPlace) (maxL := 2) (ret := (some .boolean)) (by decide) rfl ?_
  intro p e s m args below meth c s₁ B hml hv
  obtain ⟨rfl, hP, hK⟩ := hv
  have hx := B.exec
  have hb := B.bytes
  have hr := B.returns
  have hts := atoms_spec (ws := wsX1_isPlace) B.pre
  have hown : s.vm.findClass RX1 = some m.cls := findClass_of_methodNamed B.named
  have hlocks := B.notSynchronized
  have hl := lv_entry ([.ref hG, .int v1]) (n := 2) (Nat.le_of_ble_eq_true rfl)
  rw [lg_entry_eq]
  generalize (lg_sl ([.ref hG, .int v1]) ++ List.replicate (2 - (lg_sl ([.ref hG, .int v1])).length) Slot.unset).toArray = ls at hl ⊢
  have hl : lv_has ls 2 [(0, .ref hG), (1, .int v1)] := hl
  unfold fX1_isPlace at hf
  refine lv_iload_n hx hb dX1_isPlace_0 rfl (lv_at hl 1 rfl) ?_
  refine dk_ilt (tgt := 22) hx hb dX1_isPlace_1 (by decide) hf (fun hf => ?_) (fun hf => ?_)
  · refine lv_iconst (v := 0) hx hb dX1_isPlace_22 (by decide) ?_
    exact W.zret (v := 0) hx hb hr rfl (fun t ht hW => ⟨0, rfl, Option.some.inj hf, ht⟩) t_nil dX1_isPlace_23
  · refine lv_iload_n hx hb dX1_isPlace_4 rfl (lv_at hl 1 rfl) ?_
    refine lv_aload_n hx hb dX1_isPlace_5 rfl (lv_at hl 0 rfl) ?_
    refine va_get (D := D) (ci := 1) (v := .int (G.1 0)) (C := RX1) (T := TX1) (N := 9) hx hb hts iX1_isPlace_X1 hown hK.1 hP 0 rfl rfl 0 (by decide) (hts (.fieldLink RX1 9 "DarkPlace$Net" "places" "I") (List.mem_of_getElem? (i := 1) rfl)) (fun _ h9 => h9) rfl dX1_isPlace_6 ?_
    refine dk_cge (tgt := 22) hx hb dX1_isPlace_9 (by decide) hf (fun hf => ?_) (fun hf => ?_)
    · refine lv_iconst (v := 0) hx hb dX1_isPlace_22 (by decide) ?_
      exact W.zret (v := 0) hx hb hr rfl (fun t ht hW => ⟨0, rfl, Option.some.inj hf, ht⟩) t_nil dX1_isPlace_23
    · refine lv_iload_n hx hb dX1_isPlace_12 rfl (lv_at hl 1 rfl) ?_
      refine lv_bipush (v := 8) hx hb dX1_isPlace_13 (by decide) ?_
      refine dk_cge (tgt := 22) hx hb dX1_isPlace_15 (by decide) hf (fun hf => ?_) (fun hf => ?_)
      · refine lv_iconst (v := 0) hx hb dX1_isPlace_22 (by decide) ?_
        exact W.zret (v := 0) hx hb hr rfl (fun t ht hW => ⟨0, rfl, Option.some.inj hf, ht⟩) t_nil dX1_isPlace_23
      · refine lv_iconst (v := 1) hx hb dX1_isPlace_18 (by decide) ?_
        refine lv_goto (tgt := 23) hx hb dX1_isPlace_19 (by decide) ?_
        exact W.zret (v := 1) hx hb hr rfl (fun t ht hW => ⟨1, rfl, Option.some.inj hf, ht⟩) t_nil dX1_isPlace_23
theorem iX1_addEdge_X1 : ∀ w ∈ wsX10, w ∈ wsX1_addEdge := fun _ h => List.mem_cons_of_mem _ (List.mem_append_right _ h)
set_option maxHeartbeats 4000000 in
set_option maxRecDepth 100000 in
theorem kX1_addEdge (l : Launch) (D : va_G) (cy : Nat → ClassId) (hG : Nat) (aG : Nat → Nat) (sz : Nat) (G : dk_O) (v1 : Int32) (v2 : Int32) (r : Int32) (oG_I : (Nat → Int32)) (oG_5 : (Nat → Int32)) (oG_6 : (Nat → Int32)) (oG_8 : (Nat → Int32)) (hf : fX1_addEdge G v1 v2 = some (r, oG_I, oG_5, oG_6, oG_8)) : dk_MuI l yX1_addEdge wsX1_addEdge ({ frames := 1, cells := 0, slots := 0, locals := 21 }) D cy [.ref hG, .int v1, .int v2] (wNt cy hG aG G) (wNt cy hG aG (oG_I, dk_upA (dk_upA (dk_upA G.2 5 oG_5) 6 oG_6) 8 oG_8)) sz r := by
  refine Met.ofW (cc := cX1_addEdge) (maxL := 3) (ret := (some .boolean)) (by decide) rfl ?_
  intro p e s m args below meth c s₁ B hml hv
  obtain ⟨rfl, hsz, hP, hK, hD0⟩ := hv
  have hx := B.exec
  have hb := B.bytes
  have hr := B.returns
  have hts := atoms_spec (ws := wsX1_addEdge) B.pre
  have hown : s.vm.findClass RX1 = some m.cls := findClass_of_methodNamed B.named
  have hlocks := B.notSynchronized
  subst hsz
  have hD := hD0.self (sz := s.heap.size)
  generalize hAe : va_A (wNt cy hG aG G) s.heap.size = A at hD ⊢
  have hA : ∀ q : Nat, s.heap.size ≤ q → A q := fun q h => by rw [← hAe]; exact Or.inr h
  have hS : va_S A s.heap s.heap [] := va_S.rf
  have hl := lv_entry ([.ref hG, .int v1, .int v2]) (n := 3) (Nat.le_of_ble_eq_true rfl)
  rw [lg_entry_eq]
  generalize (lg_sl ([.ref hG, .int v1, .int v2]) ++ List.replicate (3 - (lg_sl ([.ref hG, .int v1, .int v2])).length) Slot.unset).toArray = ls at hl ⊢
  have hl : lv_has ls 3 [(0, .ref hG), (1, .int v1), (2, .int v2)] := hl
  unfold fX1_addEdge at hf
  refine lv_iload_n hx hb dX1_addEdge_0 rfl (lv_at hl 1 rfl) ?_
  refine lv_iload_n hx hb dX1_addEdge_1 rfl (lv_at hl 2 rfl) ?_
  refine dk_ceq (tgt := 27) hx hb dX1_addEdge_2 (by decide) hf (fun hf => ?_) (fun hf => ?_)
  · refine lv_iconst (v := 0) hx hb dX1_addEdge_27 (by decide) ?_
    have e := Option.some.inj hf
    simp only [Prod.mk.injEq] at e
    obtain ⟨e0, e1, e2, e3, e4⟩ := e
    subst e1
    subst e2
    subst e3
    subst e4
    exact W.zret (v := 0) hx hb hr rfl (fun t ht hW => ⟨⟨0, (), rfl, e0, by rw [ht]; exact hP, hD⟩, hS.F ht⟩) hS.2.2 dX1_addEdge_28
  · refine lv_aload_n hx hb dX1_addEdge_5 rfl (lv_at hl 0 rfl) ?_
    refine va_get (D := D) (ci := 1) (v := .int (G.1 4)) (C := RX1) (T := TX1) (N := 9) hx hb hts iX1_addEdge_X1 hown hK.1 hP 0 rfl rfl 4 (by decide) (hts (.fieldLink RX1 24 "DarkPlace$Net" "edges" "I") (List.mem_of_getElem? (i := 1) rfl)) (fun _ h9 => h9) rfl dX1_addEdge_6 ?_
    refine lv_bipush (v := 10) hx hb dX1_addEdge_9 (by decide) ?_
    refine dk_cge (tgt := 27) hx hb dX1_addEdge_11 (by decide) hf (fun hf => ?_) (fun hf => ?_)
    · refine lv_iconst (v := 0) hx hb dX1_addEdge_27 (by decide) ?_
      have e := Option.some.inj hf
      simp only [Prod.mk.injEq] at e
      obtain ⟨e0, e1, e2, e3, e4⟩ := e
      subst e1
      subst e2
      subst e3
      subst e4
      exact W.zret (v := 0) hx hb hr rfl (fun t ht hW => ⟨⟨0, (), rfl, e0, by rw [ht]; exact hP, hD⟩, hS.F ht⟩) hS.2.2 dX1_addEdge_28
    · refine lv_aload_n hx hb dX1_addEdge_14 rfl (lv_at hl 0 rfl) ?_
      refine va_get (D := D) (ci := 1) (v := .ref (aG 8)) (C := RX1) (T := TX1) (N := 9) hx hb hts iX1_addEdge_X1 hown hK.1 hP 0 rfl rfl 8 (by decide) (hts (.fieldLink RX1 37 "DarkPlace$Net" "beside" "[I") (List.mem_of_getElem? (i := 2) rfl)) (fun _ h9 => h9) rfl dX1_addEdge_15 ?_
      refine lv_iload_n hx hb dX1_addEdge_18 rfl (lv_at hl 1 rfl) ?_
      refine dk_iald hx hb hK.1 hP 3 0 rfl rfl hf dX1_addEdge_19 (fun d19 hf => ?_)
      refine lv_iload_n hx hb dX1_addEdge_20 rfl (lv_at hl 2 rfl) ?_
      obtain ⟨r21, k21, hf⟩ := dk_bind hf
      refine dk_ri (va_runSN (As := [.int d19, .int v2]) (rest := []) ⟨hx, hb, hml, hown, hts⟩ (kX5_holds l D cy d19 v2 r21 k21) ⟨va_cnB 2 hts gX1_addEdge_X5_holds_n69 rfl rfl rfl (hK.2 (.methodLinkNest "DarkPlace$Net" 69 ⟨"DarkPlace", "holds", "(II)Z"⟩ "DarkPlace") (List.mem_of_getElem? (i := 19) rfl)) (hts (.initialized RX5) (List.mem_of_getElem? (i := 6) rfl)) (by decide +kernel) ⟨Nat.le_of_ble_eq_true rfl, Nat.le_of_ble_eq_true rfl⟩, (hts (.static yX5_holds) (List.mem_of_getElem? (i := 5) rfl)), trivial⟩ (dk_preS hK (hP.sub (ws' := []) [] rfl)) rfl rfl hl.1 rfl (lv_room (Nat.le_of_ble_eq_true rfl)) dX1_addEdge_21 ⟨Nat.zero_le _, Nat.zero_le _⟩) ?_
      refine dk_ieq (tgt := 29) hx hb dX1_addEdge_24 (by decide) hf (fun hf => ?_) (fun hf => ?_)
      · refine lv_aload_n hx hb dX1_addEdge_29 rfl (lv_at hl 0 rfl) ?_
        refine va_get (D := D) (ci := 1) (v := .ref (aG 5)) (C := RX1) (T := TX1) (N := 9) hx hb hts iX1_addEdge_X1 hown hK.1 hP 0 rfl rfl 5 (by decide) (hts (.fieldLink RX1 27 "DarkPlace$Net" "ends" "[I") (List.mem_of_getElem? (i := 3) rfl)) (fun _ h9 => h9) rfl dX1_addEdge_30 ?_
        refine lv_aload_n hx hb dX1_addEdge_33 rfl (lv_at hl 0 rfl) ?_
        refine va_get (D := D) (ci := 1) (v := .int (G.1 4)) (C := RX1) (T := TX1) (N := 9) hx hb hts iX1_addEdge_X1 hown hK.1 hP 0 rfl rfl 4 (by decide) (hts (.fieldLink RX1 24 "DarkPlace$Net" "edges" "I") (List.mem_of_getElem? (i := 1) rfl)) (fun _ h9 => h9) rfl dX1_addEdge_34 ?_
        refine lv_iconst (v := 1) hx hb dX1_addEdge_37 (by decide) ?_
        refine lv_iload_n hx hb dX1_addEdge_38 rfl (lv_at hl 1 rfl) ?_
        refine lv_ishl hx hb dX1_addEdge_39 ?_
        refine lv_iconst (v := 1) hx hb dX1_addEdge_40 (by decide) ?_
        refine lv_iload_n hx hb dX1_addEdge_41 rfl (lv_at hl 2 rfl) ?_
        refine lv_ishl hx hb dX1_addEdge_42 ?_
        refine lv_ior hx hb dX1_addEdge_43 ?_
        refine dk_iast hx hb hK.1 hP hD hS 1 0 rfl rfl hf dX1_addEdge_44 (fun f44 H locs hP hD hS hf => ?_)
        have hP : va_P D vwCl (wNt cy hG aG (G.1, dk_upA G.2 5 f44)) H := hP
        have hD : va_D A (wNt cy hG aG (G.1, dk_upA G.2 5 f44)) := hD
        refine lv_aload_n hx hb dX1_addEdge_45 rfl (lv_at hl 0 rfl) ?_
        refine va_get (D := D) (ci := 1) (v := .ref (aG 6)) (C := RX1) (T := TX1) (N := 9) hx hb hts iX1_addEdge_X1 hown hK.1 hP 0 rfl rfl 6 (by decide) (hts (.fieldLink RX1 31 "DarkPlace$Net" "edgesAt" "[I") (List.mem_of_getElem? (i := 4) rfl)) (fun _ h9 => h9) rfl dX1_addEdge_46 ?_
        refine lv_iload_n hx hb dX1_addEdge_49 rfl (lv_at hl 1 rfl) ?_
        refine lv_dup2_11 hx hb dX1_addEdge_50 rfl rfl ?_
        refine dk_iald hx hb hK.1 hP 2 0 rfl rfl hf dX1_addEdge_51 (fun d51 hf => ?_)
        refine lv_iconst (v := 1) hx hb dX1_addEdge_52 (by decide) ?_
        refine lv_aload_n hx hb dX1_addEdge_53 rfl (lv_at hl 0 rfl) ?_
        refine va_get (D := D) (ci := 1) (v := .int (G.1 4)) (C := RX1) (T := TX1) (N := 9) hx hb hts iX1_addEdge_X1 hown hK.1 hP 0 rfl rfl 4 (by decide) (hts (.fieldLink RX1 24 "DarkPlace$Net" "edges" "I") (List.mem_of_getElem? (i := 1) rfl)) (fun _ h9 => h9) rfl dX1_addEdge_54 ?_
        refine lv_ishl hx hb dX1_addEdge_57 ?_
        refine lv_ior hx hb dX1_addEdge_58 ?_
        refine dk_iast hx hb hK.1 hP hD hS 2 0 rfl rfl hf dX1_addEdge_59 (fun f59 H locs hP hD hS hf => ?_)
        have hP : va_P D vwCl (wNt cy hG aG (G.1, dk_upA (dk_upA G.2 5 f44) 6 f59)) H := hP
        have hD : va_D A (wNt cy hG aG (G.1, dk_upA (dk_upA G.2 5 f44) 6 f59)) := hD
        refine lv_aload_n hx hb dX1_addEdge_60 rfl (lv_at hl 0 rfl) ?_
        refine va_get (D := D) (ci := 1) (v := .ref (aG 6)) (C := RX1) (T := TX1) (N := 9) hx hb hts iX1_addEdge_X1 hown hK.1 hP 0 rfl rfl 6 (by decide) (hts (.fieldLink RX1 31 "DarkPlace$Net" "edgesAt" "[I") (List.mem_of_getElem? (i := 4) rfl)) (fun _ h9 => h9) rfl dX1_addEdge_61 ?_
        refine lv_iload_n hx hb dX1_addEdge_64 rfl (lv_at hl 2 rfl) ?_
        refine lv_dup2_11 hx hb dX1_addEdge_65 rfl rfl ?_
        refine dk_iald hx hb hK.1 hP 2 0 rfl rfl hf dX1_addEdge_66 (fun d66 hf => ?_)
        refine lv_iconst (v := 1) hx hb dX1_addEdge_67 (by decide) ?_
        refine lv_aload_n hx hb dX1_addEdge_68 rfl (lv_at hl 0 rfl) ?_
        refine va_get (D := D) (ci := 1) (v := .int (G.1 4)) (C := RX1) (T := TX1) (N := 9) hx hb hts iX1_addEdge_X1 hown hK.1 hP 0 rfl rfl 4 (by decide) (hts (.fieldLink RX1 24 "DarkPlace$Net" "edges" "I") (List.mem_of_getElem? (i := 1) rfl)) (fun _ h9 => h9) rfl dX1_addEdge_69 ?_
        refine lv_ishl hx hb dX1_addEdge_72 ?_
        refine lv_ior hx hb dX1_addEdge_73 ?_
        refine dk_iast hx hb hK.1 hP hD hS 2 0 rfl rfl hf dX1_addEdge_74 (fun f74 H locs hP hD hS hf => ?_)
        have hP : va_P D vwCl (wNt cy hG aG (G.1, dk_upA (dk_upA G.2 5 f44) 6 f74)) H := hP
        have hD : va_D A (wNt cy hG aG (G.1, dk_upA (dk_upA G.2 5 f44) 6 f74)) := hD
        refine lv_aload_n hx hb dX1_addEdge_75 rfl (lv_at hl 0 rfl) ?_
        refine va_get (D := D) (ci := 1) (v := .ref (aG 8)) (C := RX1) (T := TX1) (N := 9) hx hb hts iX1_addEdge_X1 hown hK.1 hP 0 rfl rfl 8 (by decide) (hts (.fieldLink RX1 37 "DarkPlace$Net" "beside" "[I") (List.mem_of_getElem? (i := 2) rfl)) (fun _ h9 => h9) rfl dX1_addEdge_76 ?_
        refine lv_iload_n hx hb dX1_addEdge_79 rfl (lv_at hl 1 rfl) ?_
        refine lv_dup2_11 hx hb dX1_addEdge_80 rfl rfl ?_
        refine dk_iald hx hb hK.1 hP 3 0 rfl rfl hf dX1_addEdge_81 (fun d81 hf => ?_)
        refine lv_iconst (v := 1) hx hb dX1_addEdge_82 (by decide) ?_
        refine lv_iload_n hx hb dX1_addEdge_83 rfl (lv_at hl 2 rfl) ?_
        refine lv_ishl hx hb dX1_addEdge_84 ?_
        refine lv_ior hx hb dX1_addEdge_85 ?_
        refine dk_iast hx hb hK.1 hP hD hS 3 0 rfl rfl hf dX1_addEdge_86 (fun f86 H locs hP hD hS hf => ?_)
        have hP : va_P D vwCl (wNt cy hG aG (G.1, dk_upA (dk_upA (dk_upA G.2 5 f44) 6 f74) 8 f86)) H := hP
        have hD : va_D A (wNt cy hG aG (G.1, dk_upA (dk_upA (dk_upA G.2 5 f44) 6 f74) 8 f86)) := hD
        refine lv_aload_n hx hb dX1_addEdge_87 rfl (lv_at hl 0 rfl) ?_
        refine va_get (D := D) (ci := 1) (v := .ref (aG 8)) (C := RX1) (T := TX1) (N := 9) hx hb hts iX1_addEdge_X1 hown hK.1 hP 0 rfl rfl 8 (by decide) (hts (.fieldLink RX1 37 "DarkPlace$Net" "beside" "[I") (List.mem_of_getElem? (i := 2) rfl)) (fun _ h9 => h9) rfl dX1_addEdge_88 ?_
        refine lv_iload_n hx hb dX1_addEdge_91 rfl (lv_at hl 2 rfl) ?_
        refine lv_dup2_11 hx hb dX1_addEdge_92 rfl rfl ?_
        refine dk_iald hx hb hK.1 hP 3 0 rfl rfl hf dX1_addEdge_93 (fun d93 hf => ?_)
        refine lv_iconst (v := 1) hx hb dX1_addEdge_94 (by decide) ?_
        refine lv_iload_n hx hb dX1_addEdge_95 rfl (lv_at hl 1 rfl) ?_
        refine lv_ishl hx hb dX1_addEdge_96 ?_
        refine lv_ior hx hb dX1_addEdge_97 ?_
        refine dk_iast hx hb hK.1 hP hD hS 3 0 rfl rfl hf dX1_addEdge_98 (fun f98 H locs hP hD hS hf => ?_)
        have hP : va_P D vwCl (wNt cy hG aG (G.1, dk_upA (dk_upA (dk_upA G.2 5 f44) 6 f74) 8 f98)) H := hP
        have hD : va_D A (wNt cy hG aG (G.1, dk_upA (dk_upA (dk_upA G.2 5 f44) 6 f74) 8 f98)) := hD
        refine lv_aload_n hx hb dX1_addEdge_99 rfl (lv_at hl 0 rfl) ?_
        refine lv_dup hx hb dX1_addEdge_100 rfl ?_
        refine va_get (D := D) (ci := 1) (v := .int (G.1 4)) (C := RX1) (T := TX1) (N := 9) hx hb hts iX1_addEdge_X1 hown hK.1 hP 0 rfl rfl 4 (by decide) (hts (.fieldLink RX1 24 "DarkPlace$Net" "edges" "I") (List.mem_of_getElem? (i := 1) rfl)) (fun _ h9 => h9) rfl dX1_addEdge_101 ?_
        refine lv_iconst (v := 1) hx hb dX1_addEdge_104 (by decide) ?_
        refine lv_iadd hx hb dX1_addEdge_105 ?_
        refine va_put (D := D) (ci := 1) (v := .int ((G.1 4) + 1)) (ty := .int) (C := RX1) (T := TX1) (N := 9) hx hb hts iX1_addEdge_X1 tyX1 tyX1_ok nmX1 hown hK.1 hP hD hS 0 rfl rfl 4 (by decide) (hts (.fieldLink RX1 24 "DarkPlace$Net" "edges" "I") (List.mem_of_getElem? (i := 1) rfl)) (fun _ h9 => h9) rfl (by decide +kernel) rfl rfl (Nat.le_of_ble_eq_true rfl) dX1_addEdge_106 (fun H locs hP hD hS => ?_)
        have hP : va_P D vwCl (wNt cy hG aG (upd G.1 4 ((G.1 4) + 1), dk_upA (dk_upA (dk_upA G.2 5 f44) 6 f74) 8 f98)) H := hP
        have hD : va_D A (wNt cy hG aG (upd G.1 4 ((G.1 4) + 1), dk_upA (dk_upA (dk_upA G.2 5 f44) 6 f74) 8 f98)) := hD
        refine lv_iconst (v := 1) hx hb dX1_addEdge_109 (by decide) ?_
        have e := Option.some.inj hf
        simp only [Prod.mk.injEq] at e
        obtain ⟨e0, e1, e2, e3, e4⟩ := e
        subst e1
        subst e2
        subst e3
        subst e4
        exact W.zret (v := 1) hx hb hr rfl (fun t ht hW => ⟨⟨1, (), rfl, e0, by rw [ht]; exact hP, hD⟩, hS.F ht⟩) hS.2.2 dX1_addEdge_110
      · refine lv_iconst (v := 0) hx hb dX1_addEdge_27 (by decide) ?_
        have e := Option.some.inj hf
        simp only [Prod.mk.injEq] at e
        obtain ⟨e0, e1, e2, e3, e4⟩ := e
        subst e1
        subst e2
        subst e3
        subst e4
        exact W.zret (v := 0) hx hb hr rfl (fun t ht hW => ⟨⟨0, (), rfl, e0, by rw [ht]; exact hP, hD⟩, hS.F ht⟩) hS.2.2 dX1_addEdge_28
theorem iX1_takesOfEdge_X1 : ∀ w ∈ wsX10, w ∈ wsX1_takesOfEdge := fun _ h => List.mem_cons_of_mem _ (List.mem_append_right _ h)
set_option maxHeartbeats 4000000 in
set_option maxRecDepth 100000 in
theorem kX1_takesOfEdge (l : Launch) (D : va_G) (cy : Nat → ClassId) (hG : Nat) (aG : Nat → Nat) (sz : Nat) (G : dk_O) (v1 : Int32) (v2 : Int32) (r : Int32) (oG_I : (Nat → Int32)) (oG_5 : (Nat → Int32)) (oG_6 : (Nat → Int32)) (oG_8 : (Nat → Int32)) (hf : fX1_takesOfEdge G v1 v2 = some (r, oG_I, oG_5, oG_6, oG_8)) : dk_MuI l yX1_takesOfEdge wsX1_takesOfEdge ({ frames := 2, cells := 0, slots := 0, locals := 43 }) D cy [.ref hG, .int v1, .int v2] (wNt cy hG aG G) (wNt cy hG aG (oG_I, dk_upA (dk_upA (dk_upA G.2 5 oG_5) 6 oG_6) 8 oG_8)) sz r := by
  refine Met.ofW (cc := cX1_takesOfEdge) (maxL := 4) (ret := (some .boolean)) (by decide) rfl ?_
  intro p e s m args below meth c s₁ B hml hv
  obtain ⟨rfl, hsz, hP, hK, hD0⟩ := hv
  have hx := B.exec
  have hb := B.bytes
  have hr := B.returns
  have hts := atoms_spec (ws := wsX1_takesOfEdge) B.pre
  have hown : s.vm.findClass RX1 = some m.cls := findClass_of_methodNamed B.named
  have hlocks := B.notSynchronized
  subst hsz
  have hD := hD0.self (sz := s.heap.size)
  generalize hAe : va_A (wNt cy hG aG G) s.heap.size = A at hD ⊢
  have hA : ∀ q : Nat, s.heap.size ≤ q → A q := fun q h => by rw [← hAe]; exact Or.inr h
  have hS : va_S A s.heap s.heap [] := va_S.rf
  have hl := lv_entry ([.ref hG, .int v1, .int v2]) (n := 4) (Nat.le_of_ble_eq_true rfl)
  rw [lg_entry_eq]
  generalize (lg_sl ([.ref hG, .int v1, .int v2]) ++ List.replicate (4 - (lg_sl ([.ref hG, .int v1, .int v2])).length) Slot.unset).toArray = ls at hl ⊢
  have hl : lv_has ls 4 [(0, .ref hG), (1, .int v1), (2, .int v2)] := hl
  unfold fX1_takesOfEdge at hf
  refine lv_iload_n hx hb dX1_takesOfEdge_0 rfl (lv_at hl 2 rfl) ?_
  refine lv_bipush (v := 48) hx hb dX1_takesOfEdge_1 (by decide) ?_
  refine lv_isub hx hb dX1_takesOfEdge_3 ?_
  refine lv_istore_n (lv' := [(3, .int (v2 - 48)), (0, .ref hG), (1, .int v1), (2, .int v2)]) hx hb dX1_takesOfEdge_4 rfl hl (by decide) rfl (fun ls hl => ?_)
  refine lv_iload_n hx hb dX1_takesOfEdge_5 rfl (lv_at hl 2 rfl) ?_
  refine dk_ine (tgt := 50) hx hb dX1_takesOfEdge_6 (by decide) hf (fun hf => ?_) (fun hf => ?_)
  · refine lv_aload_n hx hb dX1_takesOfEdge_50 rfl (lv_at hl 1 rfl) ?_
    refine lv_iload_n hx hb dX1_takesOfEdge_51 rfl (lv_at hl 0 rfl) ?_
    obtain ⟨r52, k52, hf⟩ := dk_bind hf
    refine dk_ri (va_runV (As := [.int (v2 - 48)]) (rest := []) ⟨hx, hb, hml, hown, hts⟩ (kX1_isPlace l D cy hG aG G (v2 - 48) r52 k52) (cwV 1 hts gX1_takesOfEdge_X1_isPlace rfl rfl rfl (by decide +kernel) ⟨Nat.le_of_ble_eq_true rfl, Nat.le_of_ble_eq_true rfl⟩) (dk_preV hK (hP.sub (ws' := wNt cy hG aG G) [0, 1, 2, 3] rfl) (ci := 1) (q0 := 0) rfl rfl) rfl rfl hl.1 rfl (lv_room (Nat.le_of_ble_eq_true rfl)) dX1_takesOfEdge_52 ⟨Nat.zero_le _, Nat.zero_le _⟩) ?_
    refine dk_ine (tgt := 60) hx hb dX1_takesOfEdge_55 (by decide) hf (fun hf => ?_) (fun hf => ?_)
    · refine lv_iload_n hx hb dX1_takesOfEdge_60 rfl (lv_at hl 2 rfl) ?_
      refine lv_iconst (v := 1) hx hb dX1_takesOfEdge_61 (by decide) ?_
      refine dk_cne (tgt := 94) hx hb dX1_takesOfEdge_62 (by decide) hf (fun hf => ?_) (fun hf => ?_)
      · refine lv_aload_n hx hb dX1_takesOfEdge_94 rfl (lv_at hl 1 rfl) ?_
        refine lv_aload_n hx hb dX1_takesOfEdge_95 rfl (lv_at hl 1 rfl) ?_
        refine va_get (D := D) (ci := 1) (v := .int (G.1 7)) (C := RX1) (T := TX1) (N := 9) hx hb hts iX1_takesOfEdge_X1 hown hK.1 hP 0 rfl rfl 7 (by decide) (hts (.fieldLink RX1 34 "DarkPlace$Net" "from" "I") (List.mem_of_getElem? (i := 3) rfl)) (fun _ h9 => h9) rfl dX1_takesOfEdge_96 ?_
        refine lv_iload_n hx hb dX1_takesOfEdge_99 rfl (lv_at hl 0 rfl) ?_
        obtain ⟨⟨r100, i100_0, g100_1, g100_2, g100_3⟩, k100, hf⟩ := dk_bind hf
        dsimp only at hf
        have hPc := hP.sub (ws' := wNt cy hG aG G) [0, 1, 2, 3] rfl
        have hDc := hD.sub (ws' := wNt cy hG aG G) [0, 1, 2, 3] (by decide) rfl
        have hFc := va_free (wc := wNt cy hG aG G) hD hS hA [0, 1, 2, 3] rfl
        refine va_calli (va_runV (As := [.int (G.1 7), .int (v2 - 48)]) (rest := []) ⟨hx, hb, hml, hown, hts⟩ (kX1_addEdge l D cy hG aG s.heap.size G (G.1 7) (v2 - 48) r100 i100_0 g100_1 g100_2 g100_3 k100) (cwV 2 hts gX1_takesOfEdge_X1_addEdge rfl rfl rfl (by decide +kernel) ⟨Nat.le_of_ble_eq_true rfl, Nat.le_of_ble_eq_true rfl⟩) (dk_premV hK hPc hDc (ci := 1) (q0 := 0) rfl rfl) rfl rfl hl.1 rfl (lv_room (Nat.le_of_ble_eq_true rfl)) dX1_takesOfEdge_100 ⟨Nat.zero_le _, Nat.zero_le _⟩) hS (fun q _ h => hFc q h) hFc (fun xr100 u t H1 locs ht hvm hw hB hz1 hk1 hS => ?_)
        obtain ⟨hP1, hD1⟩ := hB
        rw [ht] at hP1
        rw [hw]
        obtain ⟨hP, hD⟩ := va_join (wr := ([] : List Nat).filterMap (fun i => (wNt cy hG aG G)[i]?)) (w1 := wNt cy hG aG (i100_0, dk_upA (dk_upA (dk_upA G.2 5 g100_1) 6 g100_2) 8 g100_3)) hP hD [0, 1, 2, 3] [] rfl rfl (by decide) (by decide) hk1 hFc hP1 hD1
        generalize H1 = H at hP hS ⊢
        have hP : va_P D vwCl (wNt cy hG aG (i100_0, dk_upA (dk_upA (dk_upA G.2 5 g100_1) 6 g100_2) 8 g100_3)) H := hP.sub [0, 1, 2, 3] rfl
        have hD : va_D A (wNt cy hG aG (i100_0, dk_upA (dk_upA (dk_upA G.2 5 g100_1) 6 g100_2) 8 g100_3)) := hD.sub [0, 1, 2, 3] (by decide) rfl
        obtain ⟨q103, hf⟩ := dk_guardT hf
        have e := Option.some.inj hf
        simp only [Prod.mk.injEq] at e
        obtain ⟨e0, e1, e2, e3, e4⟩ := e
        subst e1
        subst e2
        subst e3
        subst e4
        exact W.zret (v := r100) hx hb hr (dk_zn q103) (fun t ht hW => ⟨⟨r100, (), rfl, e0, by rw [ht]; exact hP, hD⟩, hS.F ht⟩) hS.2.2 dX1_takesOfEdge_103
      · refine lv_aload_n hx hb dX1_takesOfEdge_65 rfl (lv_at hl 1 rfl) ?_
        refine lv_iload_n hx hb dX1_takesOfEdge_66 rfl (lv_at hl 0 rfl) ?_
        refine va_put (D := D) (ci := 1) (v := .int (v2 - 48)) (ty := .int) (C := RX1) (T := TX1) (N := 9) hx hb hts iX1_takesOfEdge_X1 tyX1 tyX1_ok nmX1 hown hK.1 hP hD hS 0 rfl rfl 7 (by decide) (hts (.fieldLink RX1 34 "DarkPlace$Net" "from" "I") (List.mem_of_getElem? (i := 3) rfl)) (fun _ h9 => h9) rfl (by decide +kernel) rfl rfl (Nat.le_of_ble_eq_true rfl) dX1_takesOfEdge_67 (fun H locs hP hD hS => ?_)
        have hP : va_P D vwCl (wNt cy hG aG (upd G.1 7 (v2 - 48), G.2)) H := hP
        have hD : va_D A (wNt cy hG aG (upd G.1 7 (v2 - 48), G.2)) := hD
        refine lv_aload_n hx hb dX1_takesOfEdge_70 rfl (lv_at hl 1 rfl) ?_
        refine va_get (D := D) (ci := 1) (v := .ref (aG 8)) (C := RX1) (T := TX1) (N := 9) hx hb hts iX1_takesOfEdge_X1 hown hK.1 hP 0 rfl rfl 8 (by decide) (hts (.fieldLink RX1 37 "DarkPlace$Net" "beside" "[I") (List.mem_of_getElem? (i := 4) rfl)) (fun _ h9 => h9) rfl dX1_takesOfEdge_71 ?_
        refine lv_iload_n hx hb dX1_takesOfEdge_74 rfl (lv_at hl 0 rfl) ?_
        refine dk_iald hx hb hK.1 hP 3 0 rfl rfl hf dX1_takesOfEdge_75 (fun d75 hf => ?_)
        obtain ⟨r76, k76, hf⟩ := dk_bind hf
        refine dk_ri (va_runS (As := [.int d75]) (rest := []) ⟨hx, hb, hml, hown, hts⟩ (kJ6_bitCount_0f7a4 l D cy d75 r76 k76) (va_cwS 1 hts gX1_takesOfEdge_J6_bitCount_0f7a4 rfl rfl rfl (by decide +kernel) ⟨Nat.le_of_ble_eq_true rfl, Nat.le_of_ble_eq_true rfl⟩) (dk_preS hK (hP.sub (ws' := []) [] rfl)) rfl rfl hl.1 rfl (lv_room (Nat.le_of_ble_eq_true rfl)) dX1_takesOfEdge_76 ⟨Nat.zero_le _, Nat.zero_le _⟩) ?_
        refine lv_aload_n hx hb dX1_takesOfEdge_79 rfl (lv_at hl 1 rfl) ?_
        refine va_get (D := D) (ci := 1) (v := .int (G.1 0)) (C := RX1) (T := TX1) (N := 9) hx hb hts iX1_takesOfEdge_X1 hown hK.1 hP 0 rfl rfl 0 (by decide) (hts (.fieldLink RX1 9 "DarkPlace$Net" "places" "I") (List.mem_of_getElem? (i := 2) rfl)) (fun _ h9 => h9) rfl dX1_takesOfEdge_80 ?_
        refine lv_iconst (v := 1) hx hb dX1_takesOfEdge_83 (by decide) ?_
        refine lv_isub hx hb dX1_takesOfEdge_84 ?_
        refine dk_cge (tgt := 92) hx hb dX1_takesOfEdge_85 (by decide) hf (fun hf => ?_) (fun hf => ?_)
        · refine lv_iconst (v := 0) hx hb dX1_takesOfEdge_92 (by decide) ?_
          have e := Option.some.inj hf
          simp only [Prod.mk.injEq] at e
          obtain ⟨e0, e1, e2, e3, e4⟩ := e
          subst e1
          subst e2
          subst e3
          subst e4
          exact W.zret (v := 0) hx hb hr rfl (fun t ht hW => ⟨⟨0, (), rfl, e0, by rw [ht]; exact hP, hD⟩, hS.F ht⟩) hS.2.2 dX1_takesOfEdge_93
        · refine lv_iconst (v := 1) hx hb dX1_takesOfEdge_88 (by decide) ?_
          refine lv_goto (tgt := 93) hx hb dX1_takesOfEdge_89 (by decide) ?_
          have e := Option.some.inj hf
          simp only [Prod.mk.injEq] at e
          obtain ⟨e0, e1, e2, e3, e4⟩ := e
          subst e1
          subst e2
          subst e3
          subst e4
          exact W.zret (v := 1) hx hb hr rfl (fun t ht hW => ⟨⟨1, (), rfl, e0, by rw [ht]; exact hP, hD⟩, hS.F ht⟩) hS.2.2 dX1_takesOfEdge_93
    · refine lv_iconst (v := 0) hx hb dX1_takesOfEdge_58 (by decide) ?_
      have e := Option.some.inj hf
      simp only [Prod.mk.injEq] at e
      obtain ⟨e0, e1, e2, e3, e4⟩ := e
      subst e1
      subst e2
      subst e3
      subst e4
      exact W.zret (v := 0) hx hb hr rfl (fun t ht hW => ⟨⟨0, (), rfl, e0, by rw [ht]; exact hP, hD⟩, hS.F ht⟩) hS.2.2 dX1_takesOfEdge_59
  · refine lv_iload_n hx hb dX1_takesOfEdge_9 rfl (lv_at hl 3 rfl) ?_
    refine lv_bipush (v := 101) hx hb dX1_takesOfEdge_10 (by decide) ?_
    refine dk_cne (tgt := 48) hx hb dX1_takesOfEdge_12 (by decide) hf (fun hf => ?_) (fun hf => ?_)
    · refine lv_iconst (v := 0) hx hb dX1_takesOfEdge_48 (by decide) ?_
      have e := Option.some.inj hf
      simp only [Prod.mk.injEq] at e
      obtain ⟨e0, e1, e2, e3, e4⟩ := e
      subst e1
      subst e2
      subst e3
      subst e4
      exact W.zret (v := 0) hx hb hr rfl (fun t ht hW => ⟨⟨0, (), rfl, e0, by rw [ht]; exact hP, hD⟩, hS.F ht⟩) hS.2.2 dX1_takesOfEdge_49
    · refine lv_aload_n hx hb dX1_takesOfEdge_15 rfl (lv_at hl 1 rfl) ?_
      refine va_get (D := D) (ci := 1) (v := .int (G.1 4)) (C := RX1) (T := TX1) (N := 9) hx hb hts iX1_takesOfEdge_X1 hown hK.1 hP 0 rfl rfl 4 (by decide) (hts (.fieldLink RX1 24 "DarkPlace$Net" "edges" "I") (List.mem_of_getElem? (i := 1) rfl)) (fun _ h9 => h9) rfl dX1_takesOfEdge_16 ?_
      refine lv_bipush (v := 10) hx hb dX1_takesOfEdge_19 (by decide) ?_
      refine dk_cge (tgt := 48) hx hb dX1_takesOfEdge_21 (by decide) hf (fun hf => ?_) (fun hf => ?_)
      · refine lv_iconst (v := 0) hx hb dX1_takesOfEdge_48 (by decide) ?_
        have e := Option.some.inj hf
        simp only [Prod.mk.injEq] at e
        obtain ⟨e0, e1, e2, e3, e4⟩ := e
        subst e1
        subst e2
        subst e3
        subst e4
        exact W.zret (v := 0) hx hb hr rfl (fun t ht hW => ⟨⟨0, (), rfl, e0, by rw [ht]; exact hP, hD⟩, hS.F ht⟩) hS.2.2 dX1_takesOfEdge_49
      · refine lv_aload_n hx hb dX1_takesOfEdge_24 rfl (lv_at hl 1 rfl) ?_
        refine va_get (D := D) (ci := 1) (v := .int (G.1 4)) (C := RX1) (T := TX1) (N := 9) hx hb hts iX1_takesOfEdge_X1 hown hK.1 hP 0 rfl rfl 4 (by decide) (hts (.fieldLink RX1 24 "DarkPlace$Net" "edges" "I") (List.mem_of_getElem? (i := 1) rfl)) (fun _ h9 => h9) rfl dX1_takesOfEdge_25 ?_
        refine lv_aload_n hx hb dX1_takesOfEdge_28 rfl (lv_at hl 1 rfl) ?_
        refine va_get (D := D) (ci := 1) (v := .int (G.1 0)) (C := RX1) (T := TX1) (N := 9) hx hb hts iX1_takesOfEdge_X1 hown hK.1 hP 0 rfl rfl 0 (by decide) (hts (.fieldLink RX1 9 "DarkPlace$Net" "places" "I") (List.mem_of_getElem? (i := 2) rfl)) (fun _ h9 => h9) rfl dX1_takesOfEdge_29 ?_
        refine lv_aload_n hx hb dX1_takesOfEdge_32 rfl (lv_at hl 1 rfl) ?_
        refine va_get (D := D) (ci := 1) (v := .int (G.1 0)) (C := RX1) (T := TX1) (N := 9) hx hb hts iX1_takesOfEdge_X1 hown hK.1 hP 0 rfl rfl 0 (by decide) (hts (.fieldLink RX1 9 "DarkPlace$Net" "places" "I") (List.mem_of_getElem? (i := 2) rfl)) (fun _ h9 => h9) rfl dX1_takesOfEdge_33 ?_
        refine lv_iconst (v := 1) hx hb dX1_takesOfEdge_36 (by decide) ?_
        refine lv_isub hx hb dX1_takesOfEdge_37 ?_
        refine lv_imul hx hb dX1_takesOfEdge_38 ?_
        refine lv_iconst (v := 2) hx hb dX1_takesOfEdge_39 (by decide) ?_
        refine lv_idiv hx hb dX1_takesOfEdge_40 (by decide) ?_
        refine dk_cge (tgt := 48) hx hb dX1_takesOfEdge_41 (by decide) hf (fun hf => ?_) (fun hf => ?_)
        · refine lv_iconst (v := 0) hx hb dX1_takesOfEdge_48 (by decide) ?_
          have e := Option.some.inj hf
          simp only [Prod.mk.injEq] at e
          obtain ⟨e0, e1, e2, e3, e4⟩ := e
          subst e1
          subst e2
          subst e3
          subst e4
          exact W.zret (v := 0) hx hb hr rfl (fun t ht hW => ⟨⟨0, (), rfl, e0, by rw [ht]; exact hP, hD⟩, hS.F ht⟩) hS.2.2 dX1_takesOfEdge_49
        · refine lv_iconst (v := 1) hx hb dX1_takesOfEdge_44 (by decide) ?_
          refine lv_goto (tgt := 49) hx hb dX1_takesOfEdge_45 (by decide) ?_
          have e := Option.some.inj hf
          simp only [Prod.mk.injEq] at e
          obtain ⟨e0, e1, e2, e3, e4⟩ := e
          subst e1
          subst e2
          subst e3
          subst e4
          exact W.zret (v := 1) hx hb hr rfl (fun t ht hW => ⟨⟨1, (), rfl, e0, by rw [ht]; exact hP, hD⟩, hS.F ht⟩) hS.2.2 dX1_takesOfEdge_49
theorem iX1_takes_X1 : ∀ w ∈ wsX10, w ∈ wsX1_takes := fun _ h => List.mem_cons_of_mem _ (List.mem_append_right _ h)
set_option maxHeartbeats 4000000 in
set_option maxRecDepth 100000 in
theorem kX1_takes (l : Launch) (D : va_G) (cy : Nat → ClassId) (hG : Nat) (aG : Nat → Nat) (sz : Nat) (G : dk_O) (v1 : Int32) (v2 : Int32) (r : Int32) (oG_I : (Nat → Int32)) (oG_5 : (Nat → Int32)) (oG_6 : (Nat → Int32)) (oG_8 : (Nat → Int32)) (hf : fX1_takes G v1 v2 = some (r, oG_I, oG_5, oG_6, oG_8)) : dk_MuI l yX1_takes wsX1_takes ({ frames := 3, cells := 0, slots := 0, locals := 66 }) D cy [.ref hG, .int v1, .int v2] (wNt cy hG aG G) (wNt cy hG aG (oG_I, dk_upA (dk_upA (dk_upA G.2 5 oG_5) 6 oG_6) 8 oG_8)) sz r := by
  refine Met.ofW (cc := cX1_takes) (maxL := 4) (ret := (some .boolean)) (by decide) rfl ?_
  intro p e s m args below meth c s₁ B hml hv
  obtain ⟨rfl, hsz, hP, hK, hD0⟩ := hv
  have hx := B.exec
  have hb := B.bytes
  have hr := B.returns
  have hts := atoms_spec (ws := wsX1_takes) B.pre
  have hown : s.vm.findClass RX1 = some m.cls := findClass_of_methodNamed B.named
  have hlocks := B.notSynchronized
  subst hsz
  have hD := hD0.self (sz := s.heap.size)
  generalize hAe : va_A (wNt cy hG aG G) s.heap.size = A at hD ⊢
  have hA : ∀ q : Nat, s.heap.size ≤ q → A q := fun q h => by rw [← hAe]; exact Or.inr h
  have hS : va_S A s.heap s.heap [] := va_S.rf
  have hl := lv_entry ([.ref hG, .int v1, .int v2]) (n := 4) (Nat.le_of_ble_eq_true rfl)
  rw [lg_entry_eq]
  generalize (lg_sl ([.ref hG, .int v1, .int v2]) ++ List.replicate (4 - (lg_sl ([.ref hG, .int v1, .int v2])).length) Slot.unset).toArray = ls at hl ⊢
  have hl : lv_has ls 4 [(0, .ref hG), (1, .int v1), (2, .int v2)] := hl
  unfold fX1_takes at hf
  refine lv_iload_n hx hb dX1_takes_0 rfl (lv_at hl 2 rfl) ?_
  refine lv_bipush (v := 48) hx hb dX1_takes_1 (by decide) ?_
  refine lv_isub hx hb dX1_takes_3 ?_
  refine lv_istore_n (lv' := [(3, .int (v2 - 48)), (0, .ref hG), (1, .int v1), (2, .int v2)]) hx hb dX1_takes_4 rfl hl (by decide) rfl (fun ls hl => ?_)
  refine lv_iload_n hx hb dX1_takes_5 rfl (lv_at hl 2 rfl) ?_
  by_cases q6_0 : v1 = 0
  · have hf := dk_pos hf q6_0
    refine lv_tableIn (tgt := 40) hx hb dX1_takes_6 (by rw [q6_0]; decide) (by rw [q6_0]; decide) (by rw [q6_0]; rfl) (by decide) ?_
    refine lv_iload_n hx hb dX1_takes_40 rfl (lv_at hl 3 rfl) ?_
    refine lv_bipush (v := 78) hx hb dX1_takes_41 (by decide) ?_
    refine dk_cne (tgt := 50) hx hb dX1_takes_43 (by decide) hf (fun hf => ?_) (fun hf => ?_)
    · refine lv_iconst (v := 0) hx hb dX1_takes_50 (by decide) ?_
      have e := Option.some.inj hf
      simp only [Prod.mk.injEq] at e
      obtain ⟨e0, e1, e2, e3, e4⟩ := e
      subst e1
      subst e2
      subst e3
      subst e4
      exact W.zret (v := 0) hx hb hr rfl (fun t ht hW => ⟨⟨0, (), rfl, e0, by rw [ht]; exact hP, hD⟩, hS.F ht⟩) hS.2.2 dX1_takes_51
    · refine lv_iconst (v := 1) hx hb dX1_takes_46 (by decide) ?_
      refine lv_goto (tgt := 51) hx hb dX1_takes_47 (by decide) ?_
      have e := Option.some.inj hf
      simp only [Prod.mk.injEq] at e
      obtain ⟨e0, e1, e2, e3, e4⟩ := e
      subst e1
      subst e2
      subst e3
      subst e4
      exact W.zret (v := 1) hx hb hr rfl (fun t ht hW => ⟨⟨1, (), rfl, e0, by rw [ht]; exact hP, hD⟩, hS.F ht⟩) hS.2.2 dX1_takes_51
  have hf := dk_neg hf q6_0
  by_cases q6_1 : v1 = 1
  · have hf := dk_pos hf q6_1
    refine lv_tableIn (tgt := 52) hx hb dX1_takes_6 (by rw [q6_1]; decide) (by rw [q6_1]; decide) (by rw [q6_1]; rfl) (by decide) ?_
    refine lv_aload_n hx hb dX1_takes_52 rfl (lv_at hl 1 rfl) ?_
    refine lv_iload_n hx hb dX1_takes_53 rfl (lv_at hl 0 rfl) ?_
    refine va_put (D := D) (ci := 1) (v := .int (v2 - 48)) (ty := .int) (C := RX1) (T := TX1) (N := 9) hx hb hts iX1_takes_X1 tyX1 tyX1_ok nmX1 hown hK.1 hP hD hS 0 rfl rfl 0 (by decide) (hts (.fieldLink RX1 9 "DarkPlace$Net" "places" "I") (List.mem_of_getElem? (i := 1) rfl)) (fun _ h9 => h9) rfl (by decide +kernel) rfl rfl (Nat.le_of_ble_eq_true rfl) dX1_takes_54 (fun H locs hP hD hS => ?_)
    have hP : va_P D vwCl (wNt cy hG aG (upd G.1 0 (v2 - 48), G.2)) H := hP
    have hD : va_D A (wNt cy hG aG (upd G.1 0 (v2 - 48), G.2)) := hD
    refine lv_iload_n hx hb dX1_takes_57 rfl (lv_at hl 0 rfl) ?_
    refine lv_iconst (v := 2) hx hb dX1_takes_58 (by decide) ?_
    refine dk_clt (tgt := 72) hx hb dX1_takes_59 (by decide) hf (fun hf => ?_) (fun hf => ?_)
    · refine lv_iconst (v := 0) hx hb dX1_takes_72 (by decide) ?_
      have e := Option.some.inj hf
      simp only [Prod.mk.injEq] at e
      obtain ⟨e0, e1, e2, e3, e4⟩ := e
      subst e1
      subst e2
      subst e3
      subst e4
      exact W.zret (v := 0) hx hb hr rfl (fun t ht hW => ⟨⟨0, (), rfl, e0, by rw [ht]; exact hP, hD⟩, hS.F ht⟩) hS.2.2 dX1_takes_73
    · refine lv_iload_n hx hb dX1_takes_62 rfl (lv_at hl 0 rfl) ?_
      refine lv_bipush (v := 8) hx hb dX1_takes_63 (by decide) ?_
      refine dk_cgt (tgt := 72) hx hb dX1_takes_65 (by decide) hf (fun hf => ?_) (fun hf => ?_)
      · refine lv_iconst (v := 0) hx hb dX1_takes_72 (by decide) ?_
        have e := Option.some.inj hf
        simp only [Prod.mk.injEq] at e
        obtain ⟨e0, e1, e2, e3, e4⟩ := e
        subst e1
        subst e2
        subst e3
        subst e4
        exact W.zret (v := 0) hx hb hr rfl (fun t ht hW => ⟨⟨0, (), rfl, e0, by rw [ht]; exact hP, hD⟩, hS.F ht⟩) hS.2.2 dX1_takes_73
      · refine lv_iconst (v := 1) hx hb dX1_takes_68 (by decide) ?_
        refine lv_goto (tgt := 73) hx hb dX1_takes_69 (by decide) ?_
        have e := Option.some.inj hf
        simp only [Prod.mk.injEq] at e
        obtain ⟨e0, e1, e2, e3, e4⟩ := e
        subst e1
        subst e2
        subst e3
        subst e4
        exact W.zret (v := 1) hx hb hr rfl (fun t ht hW => ⟨⟨1, (), rfl, e0, by rw [ht]; exact hP, hD⟩, hS.F ht⟩) hS.2.2 dX1_takes_73
  have hf := dk_neg hf q6_1
  by_cases q6_2 : v1 = 2
  · have hf := dk_pos hf q6_2
    refine lv_tableIn (tgt := 74) hx hb dX1_takes_6 (by rw [q6_2]; decide) (by rw [q6_2]; decide) (by rw [q6_2]; rfl) (by decide) ?_
    refine lv_aload_n hx hb dX1_takes_74 rfl (lv_at hl 1 rfl) ?_
    refine lv_iload_n hx hb dX1_takes_75 rfl (lv_at hl 0 rfl) ?_
    refine va_put (D := D) (ci := 1) (v := .int (v2 - 48)) (ty := .int) (C := RX1) (T := TX1) (N := 9) hx hb hts iX1_takes_X1 tyX1 tyX1_ok nmX1 hown hK.1 hP hD hS 0 rfl rfl 1 (by decide) (hts (.fieldLink RX1 15 "DarkPlace$Net" "home" "I") (List.mem_of_getElem? (i := 2) rfl)) (fun _ h9 => h9) rfl (by decide +kernel) rfl rfl (Nat.le_of_ble_eq_true rfl) dX1_takes_76 (fun H locs hP hD hS => ?_)
    have hP : va_P D vwCl (wNt cy hG aG (upd G.1 1 (v2 - 48), G.2)) H := hP
    have hD : va_D A (wNt cy hG aG (upd G.1 1 (v2 - 48), G.2)) := hD
    refine lv_aload_n hx hb dX1_takes_79 rfl (lv_at hl 1 rfl) ?_
    refine lv_iload_n hx hb dX1_takes_80 rfl (lv_at hl 0 rfl) ?_
    obtain ⟨r81, k81, hf⟩ := dk_bind hf
    refine dk_ri (va_runV (As := [.int (v2 - 48)]) (rest := []) ⟨hx, hb, hml, hown, hts⟩ (kX1_isPlace l D cy hG aG (upd G.1 1 (v2 - 48), G.2) (v2 - 48) r81 k81) (cwV 1 hts gX1_takes_X1_isPlace rfl rfl rfl (by decide +kernel) ⟨Nat.le_of_ble_eq_true rfl, Nat.le_of_ble_eq_true rfl⟩) (dk_preV hK (hP.sub (ws' := wNt cy hG aG (upd G.1 1 (v2 - 48), G.2)) [0, 1, 2, 3] rfl) (ci := 1) (q0 := 0) rfl rfl) rfl rfl hl.1 rfl (lv_room (Nat.le_of_ble_eq_true rfl)) dX1_takes_81 ⟨Nat.zero_le _, Nat.zero_le _⟩) ?_
    obtain ⟨q84, hf⟩ := dk_guardT hf
    have e := Option.some.inj hf
    simp only [Prod.mk.injEq] at e
    obtain ⟨e0, e1, e2, e3, e4⟩ := e
    subst e1
    subst e2
    subst e3
    subst e4
    exact W.zret (v := r81) hx hb hr (dk_zn q84) (fun t ht hW => ⟨⟨r81, (), rfl, e0, by rw [ht]; exact hP, hD⟩, hS.F ht⟩) hS.2.2 dX1_takes_84
  have hf := dk_neg hf q6_2
  by_cases q6_3 : v1 = 3
  · have hf := dk_pos hf q6_3
    refine lv_tableIn (tgt := 85) hx hb dX1_takes_6 (by rw [q6_3]; decide) (by rw [q6_3]; decide) (by rw [q6_3]; rfl) (by decide) ?_
    refine lv_aload_n hx hb dX1_takes_85 rfl (lv_at hl 1 rfl) ?_
    refine lv_iload_n hx hb dX1_takes_86 rfl (lv_at hl 0 rfl) ?_
    refine va_put (D := D) (ci := 1) (v := .int (v2 - 48)) (ty := .int) (C := RX1) (T := TX1) (N := 9) hx hb hts iX1_takes_X1 tyX1 tyX1_ok nmX1 hown hK.1 hP hD hS 0 rfl rfl 2 (by decide) (hts (.fieldLink RX1 18 "DarkPlace$Net" "hole" "I") (List.mem_of_getElem? (i := 3) rfl)) (fun _ h9 => h9) rfl (by decide +kernel) rfl rfl (Nat.le_of_ble_eq_true rfl) dX1_takes_87 (fun H locs hP hD hS => ?_)
    have hP : va_P D vwCl (wNt cy hG aG (upd G.1 2 (v2 - 48), G.2)) H := hP
    have hD : va_D A (wNt cy hG aG (upd G.1 2 (v2 - 48), G.2)) := hD
    refine lv_aload_n hx hb dX1_takes_90 rfl (lv_at hl 1 rfl) ?_
    refine lv_iload_n hx hb dX1_takes_91 rfl (lv_at hl 0 rfl) ?_
    obtain ⟨r92, k92, hf⟩ := dk_bind hf
    refine dk_ri (va_runV (As := [.int (v2 - 48)]) (rest := []) ⟨hx, hb, hml, hown, hts⟩ (kX1_isPlace l D cy hG aG (upd G.1 2 (v2 - 48), G.2) (v2 - 48) r92 k92) (cwV 1 hts gX1_takes_X1_isPlace rfl rfl rfl (by decide +kernel) ⟨Nat.le_of_ble_eq_true rfl, Nat.le_of_ble_eq_true rfl⟩) (dk_preV hK (hP.sub (ws' := wNt cy hG aG (upd G.1 2 (v2 - 48), G.2)) [0, 1, 2, 3] rfl) (ci := 1) (q0 := 0) rfl rfl) rfl rfl hl.1 rfl (lv_room (Nat.le_of_ble_eq_true rfl)) dX1_takes_92 ⟨Nat.zero_le _, Nat.zero_le _⟩) ?_
    refine dk_ieq (tgt := 110) hx hb dX1_takes_95 (by decide) hf (fun hf => ?_) (fun hf => ?_)
    · refine lv_iconst (v := 0) hx hb dX1_takes_110 (by decide) ?_
      have e := Option.some.inj hf
      simp only [Prod.mk.injEq] at e
      obtain ⟨e0, e1, e2, e3, e4⟩ := e
      subst e1
      subst e2
      subst e3
      subst e4
      exact W.zret (v := 0) hx hb hr rfl (fun t ht hW => ⟨⟨0, (), rfl, e0, by rw [ht]; exact hP, hD⟩, hS.F ht⟩) hS.2.2 dX1_takes_111
    · refine lv_iload_n hx hb dX1_takes_98 rfl (lv_at hl 0 rfl) ?_
      refine lv_aload_n hx hb dX1_takes_99 rfl (lv_at hl 1 rfl) ?_
      refine va_get (D := D) (ci := 1) (v := .int (G.1 1)) (C := RX1) (T := TX1) (N := 9) hx hb hts iX1_takes_X1 hown hK.1 hP 0 rfl rfl 1 (by decide) (hts (.fieldLink RX1 15 "DarkPlace$Net" "home" "I") (List.mem_of_getElem? (i := 2) rfl)) (fun _ h9 => h9) rfl dX1_takes_100 ?_
      refine dk_ceq (tgt := 110) hx hb dX1_takes_103 (by decide) hf (fun hf => ?_) (fun hf => ?_)
      · refine lv_iconst (v := 0) hx hb dX1_takes_110 (by decide) ?_
        have e := Option.some.inj hf
        simp only [Prod.mk.injEq] at e
        obtain ⟨e0, e1, e2, e3, e4⟩ := e
        subst e1
        subst e2
        subst e3
        subst e4
        exact W.zret (v := 0) hx hb hr rfl (fun t ht hW => ⟨⟨0, (), rfl, e0, by rw [ht]; exact hP, hD⟩, hS.F ht⟩) hS.2.2 dX1_takes_111
      · refine lv_iconst (v := 1) hx hb dX1_takes_106 (by decide) ?_
        refine lv_goto (tgt := 111) hx hb dX1_takes_107 (by decide) ?_
        have e := Option.some.inj hf
        simp only [Prod.mk.injEq] at e
        obtain ⟨e0, e1, e2, e3, e4⟩ := e
        subst e1
        subst e2
        subst e3
        subst e4
        exact W.zret (v := 1) hx hb hr rfl (fun t ht hW => ⟨⟨1, (), rfl, e0, by rw [ht]; exact hP, hD⟩, hS.F ht⟩) hS.2.2 dX1_takes_111
  have hf := dk_neg hf q6_3
  by_cases q6_4 : v1 = 4
  · have hf := dk_pos hf q6_4
    refine lv_tableIn (tgt := 112) hx hb dX1_takes_6 (by rw [q6_4]; decide) (by rw [q6_4]; decide) (by rw [q6_4]; rfl) (by decide) ?_
    refine lv_aload_n hx hb dX1_takes_112 rfl (lv_at hl 1 rfl) ?_
    refine lv_iload_n hx hb dX1_takes_113 rfl (lv_at hl 0 rfl) ?_
    refine va_put (D := D) (ci := 1) (v := .int (v2 - 48)) (ty := .int) (C := RX1) (T := TX1) (N := 9) hx hb hts iX1_takes_X1 tyX1 tyX1_ok nmX1 hown hK.1 hP hD hS 0 rfl rfl 3 (by decide) (hts (.fieldLink RX1 21 "DarkPlace$Net" "searchers" "I") (List.mem_of_getElem? (i := 4) rfl)) (fun _ h9 => h9) rfl (by decide +kernel) rfl rfl (Nat.le_of_ble_eq_true rfl) dX1_takes_114 (fun H locs hP hD hS => ?_)
    have hP : va_P D vwCl (wNt cy hG aG (upd G.1 3 (v2 - 48), G.2)) H := hP
    have hD : va_D A (wNt cy hG aG (upd G.1 3 (v2 - 48), G.2)) := hD
    refine lv_iload_n hx hb dX1_takes_117 rfl (lv_at hl 0 rfl) ?_
    refine lv_iconst (v := 1) hx hb dX1_takes_118 (by decide) ?_
    refine dk_clt (tgt := 131) hx hb dX1_takes_119 (by decide) hf (fun hf => ?_) (fun hf => ?_)
    · refine lv_iconst (v := 0) hx hb dX1_takes_131 (by decide) ?_
      have e := Option.some.inj hf
      simp only [Prod.mk.injEq] at e
      obtain ⟨e0, e1, e2, e3, e4⟩ := e
      subst e1
      subst e2
      subst e3
      subst e4
      exact W.zret (v := 0) hx hb hr rfl (fun t ht hW => ⟨⟨0, (), rfl, e0, by rw [ht]; exact hP, hD⟩, hS.F ht⟩) hS.2.2 dX1_takes_132
    · refine lv_iload_n hx hb dX1_takes_122 rfl (lv_at hl 0 rfl) ?_
      refine lv_iconst (v := 4) hx hb dX1_takes_123 (by decide) ?_
      refine dk_cgt (tgt := 131) hx hb dX1_takes_124 (by decide) hf (fun hf => ?_) (fun hf => ?_)
      · refine lv_iconst (v := 0) hx hb dX1_takes_131 (by decide) ?_
        have e := Option.some.inj hf
        simp only [Prod.mk.injEq] at e
        obtain ⟨e0, e1, e2, e3, e4⟩ := e
        subst e1
        subst e2
        subst e3
        subst e4
        exact W.zret (v := 0) hx hb hr rfl (fun t ht hW => ⟨⟨0, (), rfl, e0, by rw [ht]; exact hP, hD⟩, hS.F ht⟩) hS.2.2 dX1_takes_132
      · refine lv_iconst (v := 1) hx hb dX1_takes_127 (by decide) ?_
        refine lv_goto (tgt := 132) hx hb dX1_takes_128 (by decide) ?_
        have e := Option.some.inj hf
        simp only [Prod.mk.injEq] at e
        obtain ⟨e0, e1, e2, e3, e4⟩ := e
        subst e1
        subst e2
        subst e3
        subst e4
        exact W.zret (v := 1) hx hb hr rfl (fun t ht hW => ⟨⟨1, (), rfl, e0, by rw [ht]; exact hP, hD⟩, hS.F ht⟩) hS.2.2 dX1_takes_132
  have hf := dk_neg hf q6_4
  refine lv_tableOut (tgt := 133) hx hb dX1_takes_6 (dk_tabOut 0 5 (by decide) (fun k h1 h2 => by
    rcases (show k = 0 ∨ k = 1 ∨ k = 2 ∨ k = 3 ∨ k = 4 by omega) with rfl | rfl | rfl | rfl | rfl
    · exact q6_0
    · exact q6_1
    · exact q6_2
    · exact q6_3
    · exact q6_4)) (by decide) ?_
  refine lv_aload_n hx hb dX1_takes_133 rfl (lv_at hl 1 rfl) ?_
  refine lv_iload_n hx hb dX1_takes_134 rfl (lv_at hl 2 rfl) ?_
  refine lv_iconst (v := 5) hx hb dX1_takes_135 (by decide) ?_
  refine lv_isub hx hb dX1_takes_136 ?_
  refine lv_iconst (v := 3) hx hb dX1_takes_137 (by decide) ?_
  refine lv_irem hx hb dX1_takes_138 (by decide) ?_
  refine lv_iload_n hx hb dX1_takes_139 rfl (lv_at hl 3 rfl) ?_
  obtain ⟨⟨r140, i140_0, g140_1, g140_2, g140_3⟩, k140, hf⟩ := dk_bind hf
  dsimp only at hf
  have hPc := hP.sub (ws' := wNt cy hG aG G) [0, 1, 2, 3] rfl
  have hDc := hD.sub (ws' := wNt cy hG aG G) [0, 1, 2, 3] (by decide) rfl
  have hFc := va_free (wc := wNt cy hG aG G) hD hS hA [0, 1, 2, 3] rfl
  refine va_calli (va_runV (As := [.int ((v1 - 5) - (v1 - 5) / 3 * 3), .int v2]) (rest := []) ⟨hx, hb, hml, hown, hts⟩ (kX1_takesOfEdge l D cy hG aG s.heap.size G ((v1 - 5) - (v1 - 5) / 3 * 3) v2 r140 i140_0 g140_1 g140_2 g140_3 k140) (cwV 2 hts gX1_takes_X1_takesOfEdge rfl rfl rfl (by decide +kernel) ⟨Nat.le_of_ble_eq_true rfl, Nat.le_of_ble_eq_true rfl⟩) (dk_premV hK hPc hDc (ci := 1) (q0 := 0) rfl rfl) rfl rfl hl.1 rfl (lv_room (Nat.le_of_ble_eq_true rfl)) dX1_takes_140 ⟨Nat.zero_le _, Nat.zero_le _⟩) hS (fun q _ h => hFc q h) hFc (fun xr140 u t H1 locs ht hvm hw hB hz1 hk1 hS => ?_)
  obtain ⟨hP1, hD1⟩ := hB
  rw [ht] at hP1
  rw [hw]
  obtain ⟨hP, hD⟩ := va_join (wr := ([] : List Nat).filterMap (fun i => (wNt cy hG aG G)[i]?)) (w1 := wNt cy hG aG (i140_0, dk_upA (dk_upA (dk_upA G.2 5 g140_1) 6 g140_2) 8 g140_3)) hP hD [0, 1, 2, 3] [] rfl rfl (by decide) (by decide) hk1 hFc hP1 hD1
  generalize H1 = H at hP hS ⊢
  have hP : va_P D vwCl (wNt cy hG aG (i140_0, dk_upA (dk_upA (dk_upA G.2 5 g140_1) 6 g140_2) 8 g140_3)) H := hP.sub [0, 1, 2, 3] rfl
  have hD : va_D A (wNt cy hG aG (i140_0, dk_upA (dk_upA (dk_upA G.2 5 g140_1) 6 g140_2) 8 g140_3)) := hD.sub [0, 1, 2, 3] (by decide) rfl
  obtain ⟨q143, hf⟩ := dk_guardT hf
  have e := Option.some.inj hf
  simp only [Prod.mk.injEq] at e
  obtain ⟨e0, e1, e2, e3, e4⟩ := e
  subst e1
  subst e2
  subst e3
  subst e4
  exact W.zret (v := r140) hx hb hr (dk_zn q143) (fun t ht hW => ⟨⟨r140, (), rfl, e0, by rw [ht]; exact hP, hD⟩, hS.F ht⟩) hS.2.2 dX1_takes_143
theorem iX1_isEdge_X1 : ∀ w ∈ wsX10, w ∈ wsX1_isEdge := fun _ h => List.mem_cons_of_mem _ (List.mem_append_right _ h)
set_option maxHeartbeats 4000000 in
set_option maxRecDepth 100000 in
theorem kX1_isEdge (l : Launch) (D : va_G) (cy : Nat → ClassId) (hG : Nat) (aG : Nat → Nat) (G : dk_O) (v1 : Int32) (r : Int32) (hf : fX1_isEdge G v1 = some r) : dk_RdI l yX1_isEdge wsX1_isEdge ({ frames := 0, cells := 0, slots := 0, locals := 0 }) D cy [.ref hG, .int v1] (wNt cy hG aG G) r := by
  refine Met.ofW (cc := cX1_isEdge) (maxL := 2) (ret := (some .boolean)) (by decide) rfl ?_
  intro p e s m args below meth c s₁ B hml hv
  obtain ⟨rfl, hP, hK⟩ := hv
  have hx := B.exec
  have hb := B.bytes
  have hr := B.returns
  have hts := atoms_spec (ws := wsX1_isEdge) B.pre
  have hown : s.vm.findClass RX1 = some m.cls := findClass_of_methodNamed B.named
  have hlocks := B.notSynchronized
  have hl := lv_entry ([.ref hG, .int v1]) (n := 2) (Nat.le_of_ble_eq_true rfl)
  rw [lg_entry_eq]
  generalize (lg_sl ([.ref hG, .int v1]) ++ List.replicate (2 - (lg_sl ([.ref hG, .int v1])).length) Slot.unset).toArray = ls at hl ⊢
  have hl : lv_has ls 2 [(0, .ref hG), (1, .int v1)] := hl
  unfold fX1_isEdge at hf
  refine lv_iload_n hx hb dX1_isEdge_0 rfl (lv_at hl 1 rfl) ?_
  refine dk_ilt (tgt := 16) hx hb dX1_isEdge_1 (by decide) hf (fun hf => ?_) (fun hf => ?_)
  · refine lv_iconst (v := 0) hx hb dX1_isEdge_16 (by decide) ?_
    exact W.zret (v := 0) hx hb hr rfl (fun t ht hW => ⟨0, rfl, Option.some.inj hf, ht⟩) t_nil dX1_isEdge_17
  · refine lv_iload_n hx hb dX1_isEdge_4 rfl (lv_at hl 1 rfl) ?_
    refine lv_aload_n hx hb dX1_isEdge_5 rfl (lv_at hl 0 rfl) ?_
    refine va_get (D := D) (ci := 1) (v := .int (G.1 4)) (C := RX1) (T := TX1) (N := 9) hx hb hts iX1_isEdge_X1 hown hK.1 hP 0 rfl rfl 4 (by decide) (hts (.fieldLink RX1 24 "DarkPlace$Net" "edges" "I") (List.mem_of_getElem? (i := 1) rfl)) (fun _ h9 => h9) rfl dX1_isEdge_6 ?_
    refine dk_cge (tgt := 16) hx hb dX1_isEdge_9 (by decide) hf (fun hf => ?_) (fun hf => ?_)
    · refine lv_iconst (v := 0) hx hb dX1_isEdge_16 (by decide) ?_
      exact W.zret (v := 0) hx hb hr rfl (fun t ht hW => ⟨0, rfl, Option.some.inj hf, ht⟩) t_nil dX1_isEdge_17
    · refine lv_iconst (v := 1) hx hb dX1_isEdge_12 (by decide) ?_
      refine lv_goto (tgt := 17) hx hb dX1_isEdge_13 (by decide) ?_
      exact W.zret (v := 1) hx hb hr rfl (fun t ht hW => ⟨1, rfl, Option.some.inj hf, ht⟩) t_nil dX1_isEdge_17
theorem iX1_lesserEnd_X1 : ∀ w ∈ wsX10, w ∈ wsX1_lesserEnd := fun _ h => List.mem_cons_of_mem _ (List.mem_append_right _ h)
set_option maxHeartbeats 4000000 in
set_option maxRecDepth 100000 in
theorem kX1_lesserEnd (l : Launch) (D : va_G) (cy : Nat → ClassId) (hG : Nat) (aG : Nat → Nat) (G : dk_O) (v1 : Int32) (r : Int32) (hf : fX1_lesserEnd G v1 = some r) : dk_RdI l yX1_lesserEnd wsX1_lesserEnd ({ frames := 1, cells := 0, slots := 0, locals := 21 }) D cy [.ref hG, .int v1] (wNt cy hG aG G) r := by
  refine Met.ofW (cc := cX1_lesserEnd) (maxL := 2) (ret := (some .int)) (by decide) rfl ?_
  intro p e s m args below meth c s₁ B hml hv
  obtain ⟨rfl, hP, hK⟩ := hv
  have hx := B.exec
  have hb := B.bytes
  have hr := B.returns
  have hts := atoms_spec (ws := wsX1_lesserEnd) B.pre
  have hown : s.vm.findClass RX1 = some m.cls := findClass_of_methodNamed B.named
  have hlocks := B.notSynchronized
  have hl := lv_entry ([.ref hG, .int v1]) (n := 2) (Nat.le_of_ble_eq_true rfl)
  rw [lg_entry_eq]
  generalize (lg_sl ([.ref hG, .int v1]) ++ List.replicate (2 - (lg_sl ([.ref hG, .int v1])).length) Slot.unset).toArray = ls at hl ⊢
  have hl : lv_has ls 2 [(0, .ref hG), (1, .int v1)] := hl
  unfold fX1_lesserEnd at hf
  refine lv_aload_n hx hb dX1_lesserEnd_0 rfl (lv_at hl 0 rfl) ?_
  refine lv_iload_n hx hb dX1_lesserEnd_1 rfl (lv_at hl 1 rfl) ?_
  obtain ⟨r2, k2, hf⟩ := dk_bind hf
  refine dk_ri (va_runV (As := [.int v1]) (rest := []) ⟨hx, hb, hml, hown, hts⟩ (kX1_isEdge l D cy hG aG G v1 r2 k2) (cwV 1 hts gX1_lesserEnd_X1_isEdge rfl rfl rfl (by decide +kernel) ⟨Nat.le_of_ble_eq_true rfl, Nat.le_of_ble_eq_true rfl⟩) (dk_preV hK (hP.sub (ws' := wNt cy hG aG G) [0, 1, 2, 3] rfl) (ci := 1) (q0 := 0) rfl rfl) rfl rfl hl.1 rfl (lv_room (Nat.le_of_ble_eq_true rfl)) dX1_lesserEnd_2 ⟨Nat.zero_le _, Nat.zero_le _⟩) ?_
  refine dk_ieq (tgt := 20) hx hb dX1_lesserEnd_5 (by decide) hf (fun hf => ?_) (fun hf => ?_)
  · refine lv_bipush (v := (-9)) hx hb dX1_lesserEnd_20 (by decide) ?_
    exact W.iret (v := (-9)) hx hb hr (fun t ht hW => ⟨(-9), rfl, Option.some.inj hf, ht⟩) t_nil dX1_lesserEnd_22
  · refine lv_aload_n hx hb dX1_lesserEnd_8 rfl (lv_at hl 0 rfl) ?_
    refine va_get (D := D) (ci := 1) (v := .ref (aG 5)) (C := RX1) (T := TX1) (N := 9) hx hb hts iX1_lesserEnd_X1 hown hK.1 hP 0 rfl rfl 5 (by decide) (hts (.fieldLink RX1 27 "DarkPlace$Net" "ends" "[I") (List.mem_of_getElem? (i := 1) rfl)) (fun _ h9 => h9) rfl dX1_lesserEnd_9 ?_
    refine lv_iload_n hx hb dX1_lesserEnd_12 rfl (lv_at hl 1 rfl) ?_
    refine dk_iald hx hb hK.1 hP 1 0 rfl rfl hf dX1_lesserEnd_13 (fun d13 hf => ?_)
    obtain ⟨r14, k14, hf⟩ := dk_bind hf
    refine dk_ri (va_runSN (As := [.int d13]) (rest := []) ⟨hx, hb, hml, hown, hts⟩ (kX5_least l D cy d13 r14 k14) ⟨va_cnB 1 hts gX1_lesserEnd_X5_least_n75 rfl rfl rfl (hK.2 (.methodLinkNest "DarkPlace$Net" 75 ⟨"DarkPlace", "least", "(I)I"⟩ "DarkPlace") (List.mem_of_getElem? (i := 20) rfl)) (hts (.initialized RX5) (List.mem_of_getElem? (i := 9) rfl)) (by decide +kernel) ⟨Nat.le_of_ble_eq_true rfl, Nat.le_of_ble_eq_true rfl⟩, (hts (.static yX5_least) (List.mem_of_getElem? (i := 8) rfl)), trivial⟩ (dk_preS hK (hP.sub (ws' := []) [] rfl)) rfl rfl hl.1 rfl (lv_room (Nat.le_of_ble_eq_true rfl)) dX1_lesserEnd_14 ⟨Nat.zero_le _, Nat.zero_le _⟩) ?_
    refine lv_goto (tgt := 22) hx hb dX1_lesserEnd_17 (by decide) ?_
    exact W.iret (v := r14) hx hb hr (fun t ht hW => ⟨r14, rfl, Option.some.inj hf, ht⟩) t_nil dX1_lesserEnd_22
theorem iX1_otherEnd_X1 : ∀ w ∈ wsX10, w ∈ wsX1_otherEnd := fun _ h => List.mem_cons_of_mem _ (List.mem_append_right _ h)
set_option maxHeartbeats 4000000 in
set_option maxRecDepth 100000 in
theorem kX1_otherEnd (l : Launch) (D : va_G) (cy : Nat → ClassId) (hG : Nat) (aG : Nat → Nat) (G : dk_O) (v1 : Int32) (v2 : Int32) (r : Int32) (hf : fX1_otherEnd G v1 v2 = some r) : dk_RdI l yX1_otherEnd wsX1_otherEnd ({ frames := 1, cells := 0, slots := 0, locals := 21 }) D cy [.ref hG, .int v1, .int v2] (wNt cy hG aG G) r := by
  refine Met.ofW (cc := cX1_otherEnd) (maxL := 3) (ret := (some .int)) (by decide) rfl ?_
  intro p e s m args below meth c s₁ B hml hv
  obtain ⟨rfl, hP, hK⟩ := hv
  have hx := B.exec
  have hb := B.bytes
  have hr := B.returns
  have hts := atoms_spec (ws := wsX1_otherEnd) B.pre
  have hown : s.vm.findClass RX1 = some m.cls := findClass_of_methodNamed B.named
  have hlocks := B.notSynchronized
  have hl := lv_entry ([.ref hG, .int v1, .int v2]) (n := 3) (Nat.le_of_ble_eq_true rfl)
  rw [lg_entry_eq]
  generalize (lg_sl ([.ref hG, .int v1, .int v2]) ++ List.replicate (3 - (lg_sl ([.ref hG, .int v1, .int v2])).length) Slot.unset).toArray = ls at hl ⊢
  have hl : lv_has ls 3 [(0, .ref hG), (1, .int v1), (2, .int v2)] := hl
  unfold fX1_otherEnd at hf
  refine lv_aload_n hx hb dX1_otherEnd_0 rfl (lv_at hl 0 rfl) ?_
  refine lv_iload_n hx hb dX1_otherEnd_1 rfl (lv_at hl 1 rfl) ?_
  obtain ⟨r2, k2, hf⟩ := dk_bind hf
  refine dk_ri (va_runV (As := [.int v1]) (rest := []) ⟨hx, hb, hml, hown, hts⟩ (kX1_isEdge l D cy hG aG G v1 r2 k2) (cwV 1 hts gX1_otherEnd_X1_isEdge rfl rfl rfl (by decide +kernel) ⟨Nat.le_of_ble_eq_true rfl, Nat.le_of_ble_eq_true rfl⟩) (dk_preV hK (hP.sub (ws' := wNt cy hG aG G) [0, 1, 2, 3] rfl) (ci := 1) (q0 := 0) rfl rfl) rfl rfl hl.1 rfl (lv_room (Nat.le_of_ble_eq_true rfl)) dX1_otherEnd_2 ⟨Nat.zero_le _, Nat.zero_le _⟩) ?_
  refine dk_ieq (tgt := 26) hx hb dX1_otherEnd_5 (by decide) hf (fun hf => ?_) (fun hf => ?_)
  · refine lv_bipush (v := (-9)) hx hb dX1_otherEnd_26 (by decide) ?_
    exact W.iret (v := (-9)) hx hb hr (fun t ht hW => ⟨(-9), rfl, Option.some.inj hf, ht⟩) t_nil dX1_otherEnd_28
  · refine lv_aload_n hx hb dX1_otherEnd_8 rfl (lv_at hl 0 rfl) ?_
    refine va_get (D := D) (ci := 1) (v := .ref (aG 5)) (C := RX1) (T := TX1) (N := 9) hx hb hts iX1_otherEnd_X1 hown hK.1 hP 0 rfl rfl 5 (by decide) (hts (.fieldLink RX1 27 "DarkPlace$Net" "ends" "[I") (List.mem_of_getElem? (i := 1) rfl)) (fun _ h9 => h9) rfl dX1_otherEnd_9 ?_
    refine lv_iload_n hx hb dX1_otherEnd_12 rfl (lv_at hl 1 rfl) ?_
    refine dk_iald hx hb hK.1 hP 1 0 rfl rfl hf dX1_otherEnd_13 (fun d13 hf => ?_)
    refine lv_iconst (v := 1) hx hb dX1_otherEnd_14 (by decide) ?_
    refine lv_iload_n hx hb dX1_otherEnd_15 rfl (lv_at hl 2 rfl) ?_
    refine lv_ishl hx hb dX1_otherEnd_16 ?_
    refine lv_iconst (v := (-1)) hx hb dX1_otherEnd_17 (by decide) ?_
    refine lv_ixor hx hb dX1_otherEnd_18 ?_
    refine lv_iand hx hb dX1_otherEnd_19 ?_
    obtain ⟨r20, k20, hf⟩ := dk_bind hf
    refine dk_ri (va_runSN (As := [.int (d13 &&& (((1 : Int32) <<< (v2 &&& 31)) ^^^ (-1)))]) (rest := []) ⟨hx, hb, hml, hown, hts⟩ (kX5_least l D cy (d13 &&& (((1 : Int32) <<< (v2 &&& 31)) ^^^ (-1))) r20 k20) ⟨va_cnB 1 hts gX1_otherEnd_X5_least_n75 rfl rfl rfl (hK.2 (.methodLinkNest "DarkPlace$Net" 75 ⟨"DarkPlace", "least", "(I)I"⟩ "DarkPlace") (List.mem_of_getElem? (i := 20) rfl)) (hts (.initialized RX5) (List.mem_of_getElem? (i := 9) rfl)) (by decide +kernel) ⟨Nat.le_of_ble_eq_true rfl, Nat.le_of_ble_eq_true rfl⟩, (hts (.static yX5_least) (List.mem_of_getElem? (i := 8) rfl)), trivial⟩ (dk_preS hK (hP.sub (ws' := []) [] rfl)) rfl rfl hl.1 rfl (lv_room (Nat.le_of_ble_eq_true rfl)) dX1_otherEnd_20 ⟨Nat.zero_le _, Nat.zero_le _⟩) ?_
    refine lv_goto (tgt := 28) hx hb dX1_otherEnd_23 (by decide) ?_
    exact W.iret (v := r20) hx hb hr (fun t ht hW => ⟨r20, rfl, Option.some.inj hf, ht⟩) t_nil dX1_otherEnd_28
set_option maxHeartbeats 4000000 in
set_option maxRecDepth 100000 in
theorem kX1_greaterEnd (l : Launch) (D : va_G) (cy : Nat → ClassId) (hG : Nat) (aG : Nat → Nat) (G : dk_O) (v1 : Int32) (r : Int32) (hf : fX1_greaterEnd G v1 = some r) : dk_RdI l yX1_greaterEnd wsX1_greaterEnd ({ frames := 2, cells := 0, slots := 0, locals := 43 }) D cy [.ref hG, .int v1] (wNt cy hG aG G) r := by
  refine Met.ofW (cc := cX1_greaterEnd) (maxL := 2) (ret := (some .int)) (by decide) rfl ?_
  intro p e s m args below meth c s₁ B hml hv
  obtain ⟨rfl, hP, hK⟩ := hv
  have hx := B.exec
  have hb := B.bytes
  have hr := B.returns
  have hts := atoms_spec (ws := wsX1_greaterEnd) B.pre
  have hown : s.vm.findClass RX1 = some m.cls := findClass_of_methodNamed B.named
  have hlocks := B.notSynchronized
  have hl := lv_entry ([.ref hG, .int v1]) (n := 2) (Nat.le_of_ble_eq_true rfl)
  rw [lg_entry_eq]
  generalize (lg_sl ([.ref hG, .int v1]) ++ List.replicate (2 - (lg_sl ([.ref hG, .int v1])).length) Slot.unset).toArray = ls at hl ⊢
  have hl : lv_has ls 2 [(0, .ref hG), (1, .int v1)] := hl
  unfold fX1_greaterEnd at hf
  refine lv_aload_n hx hb dX1_greaterEnd_0 rfl (lv_at hl 0 rfl) ?_
  refine lv_iload_n hx hb dX1_greaterEnd_1 rfl (lv_at hl 1 rfl) ?_
  obtain ⟨r2, k2, hf⟩ := dk_bind hf
  refine dk_ri (va_runV (As := [.int v1]) (rest := []) ⟨hx, hb, hml, hown, hts⟩ (kX1_isEdge l D cy hG aG G v1 r2 k2) (cwV 1 hts gX1_greaterEnd_X1_isEdge rfl rfl rfl (by decide +kernel) ⟨Nat.le_of_ble_eq_true rfl, Nat.le_of_ble_eq_true rfl⟩) (dk_preV hK (hP.sub (ws' := wNt cy hG aG G) [0, 1, 2, 3] rfl) (ci := 1) (q0 := 0) rfl rfl) rfl rfl hl.1 rfl (lv_room (Nat.le_of_ble_eq_true rfl)) dX1_greaterEnd_2 ⟨Nat.zero_le _, Nat.zero_le _⟩) ?_
  refine dk_ieq (tgt := 21) hx hb dX1_greaterEnd_5 (by decide) hf (fun hf => ?_) (fun hf => ?_)
  · refine lv_bipush (v := (-9)) hx hb dX1_greaterEnd_21 (by decide) ?_
    exact W.iret (v := (-9)) hx hb hr (fun t ht hW => ⟨(-9), rfl, Option.some.inj hf, ht⟩) t_nil dX1_greaterEnd_23
  · refine lv_aload_n hx hb dX1_greaterEnd_8 rfl (lv_at hl 0 rfl) ?_
    refine lv_iload_n hx hb dX1_greaterEnd_9 rfl (lv_at hl 1 rfl) ?_
    refine lv_aload_n hx hb dX1_greaterEnd_10 rfl (lv_at hl 0 rfl) ?_
    refine lv_iload_n hx hb dX1_greaterEnd_11 rfl (lv_at hl 1 rfl) ?_
    obtain ⟨r12, k12, hf⟩ := dk_bind hf
    refine dk_ri (va_runV (As := [.int v1]) (rest := [.int v1, .ref hG]) ⟨hx, hb, hml, hown, hts⟩ (kX1_lesserEnd l D cy hG aG G v1 r12 k12) (cwV 1 hts gX1_greaterEnd_X1_lesserEnd rfl rfl rfl (by decide +kernel) ⟨Nat.le_of_ble_eq_true rfl, Nat.le_of_ble_eq_true rfl⟩) (dk_preV hK (hP.sub (ws' := wNt cy hG aG G) [0, 1, 2, 3] rfl) (ci := 1) (q0 := 0) rfl rfl) rfl rfl hl.1 rfl (lv_room (Nat.le_of_ble_eq_true rfl)) dX1_greaterEnd_12 ⟨Nat.zero_le _, Nat.zero_le _⟩) ?_
    obtain ⟨r15, k15, hf⟩ := dk_bind hf
    refine dk_ri (va_runV (As := [.int v1, .int r12]) (rest := []) ⟨hx, hb, hml, hown, hts⟩ (kX1_otherEnd l D cy hG aG G v1 r12 r15 k15) (cwV 2 hts gX1_greaterEnd_X1_otherEnd rfl rfl rfl (by decide +kernel) ⟨Nat.le_of_ble_eq_true rfl, Nat.le_of_ble_eq_true rfl⟩) (dk_preV hK (hP.sub (ws' := wNt cy hG aG G) [0, 1, 2, 3] rfl) (ci := 1) (q0 := 0) rfl rfl) rfl rfl hl.1 rfl (lv_room (Nat.le_of_ble_eq_true rfl)) dX1_greaterEnd_15 ⟨Nat.zero_le _, Nat.zero_le _⟩) ?_
    refine lv_goto (tgt := 23) hx hb dX1_greaterEnd_18 (by decide) ?_
    exact W.iret (v := r15) hx hb hr (fun t ht hW => ⟨r15, rfl, Option.some.inj hf, ht⟩) t_nil dX1_greaterEnd_23
theorem iX1_edgesFrom_X1 : ∀ w ∈ wsX10, w ∈ wsX1_edgesFrom := fun _ h => List.mem_cons_of_mem _ (List.mem_append_right _ h)
set_option maxHeartbeats 4000000 in
set_option maxRecDepth 100000 in
theorem kX1_edgesFrom (l : Launch) (D : va_G) (cy : Nat → ClassId) (hG : Nat) (aG : Nat → Nat) (G : dk_O) (v1 : Int32) (r : Int32) (hf : fX1_edgesFrom G v1 = some r) : dk_RdI l yX1_edgesFrom wsX1_edgesFrom ({ frames := 0, cells := 0, slots := 0, locals := 0 }) D cy [.ref hG, .int v1] (wNt cy hG aG G) r := by
  refine Met.ofW (cc := cX1_edgesFrom) (maxL := 2) (ret := (some .int)) (by decide) rfl ?_
  intro p e s m args below meth c s₁ B hml hv
  obtain ⟨rfl, hP, hK⟩ := hv
  have hx := B.exec
  have hb := B.bytes
  have hr := B.returns
  have hts := atoms_spec (ws := wsX1_edgesFrom) B.pre
  have hown : s.vm.findClass RX1 = some m.cls := findClass_of_methodNamed B.named
  have hlocks := B.notSynchronized
  have hl := lv_entry ([.ref hG, .int v1]) (n := 2) (Nat.le_of_ble_eq_true rfl)
  rw [lg_entry_eq]
  generalize (lg_sl ([.ref hG, .int v1]) ++ List.replicate (2 - (lg_sl ([.ref hG, .int v1])).length) Slot.unset).toArray = ls at hl ⊢
  have hl : lv_has ls 2 [(0, .ref hG), (1, .int v1)] := hl
  unfold fX1_edgesFrom at hf
  refine lv_iload_n hx hb dX1_edgesFrom_0 rfl (lv_at hl 1 rfl) ?_
  refine dk_ilt (tgt := 19) hx hb dX1_edgesFrom_1 (by decide) hf (fun hf => ?_) (fun hf => ?_)
  · refine lv_iconst (v := 0) hx hb dX1_edgesFrom_19 (by decide) ?_
    exact W.iret (v := 0) hx hb hr (fun t ht hW => ⟨0, rfl, Option.some.inj hf, ht⟩) t_nil dX1_edgesFrom_20
  · refine lv_iload_n hx hb dX1_edgesFrom_4 rfl (lv_at hl 1 rfl) ?_
    refine lv_bipush (v := 8) hx hb dX1_edgesFrom_5 (by decide) ?_
    refine dk_cge (tgt := 19) hx hb dX1_edgesFrom_7 (by decide) hf (fun hf => ?_) (fun hf => ?_)
    · refine lv_iconst (v := 0) hx hb dX1_edgesFrom_19 (by decide) ?_
      exact W.iret (v := 0) hx hb hr (fun t ht hW => ⟨0, rfl, Option.some.inj hf, ht⟩) t_nil dX1_edgesFrom_20
    · refine lv_aload_n hx hb dX1_edgesFrom_10 rfl (lv_at hl 0 rfl) ?_
      refine va_get (D := D) (ci := 1) (v := .ref (aG 6)) (C := RX1) (T := TX1) (N := 9) hx hb hts iX1_edgesFrom_X1 hown hK.1 hP 0 rfl rfl 6 (by decide) (hts (.fieldLink RX1 31 "DarkPlace$Net" "edgesAt" "[I") (List.mem_of_getElem? (i := 1) rfl)) (fun _ h9 => h9) rfl dX1_edgesFrom_11 ?_
      refine lv_iload_n hx hb dX1_edgesFrom_14 rfl (lv_at hl 1 rfl) ?_
      refine dk_iald hx hb hK.1 hP 2 0 rfl rfl hf dX1_edgesFrom_15 (fun d15 hf => ?_)
      refine lv_goto (tgt := 20) hx hb dX1_edgesFrom_16 (by decide) ?_
      exact W.iret (v := d15) hx hb hr (fun t ht hW => ⟨d15, rfl, Option.some.inj hf, ht⟩) t_nil dX1_edgesFrom_20
theorem iX1_edgesAtAny_X1 : ∀ w ∈ wsX10, w ∈ wsX1_edgesAtAny := fun _ h => List.mem_cons_of_mem _ (List.mem_append_right _ h)
set_option maxHeartbeats 4000000 in
set_option maxRecDepth 100000 in
theorem kX1_edgesAtAny (l : Launch) (D : va_G) (cy : Nat → ClassId) (hG : Nat) (aG : Nat → Nat) (G : dk_O) (v1 : Int32) (r : Int32) (hf : fX1_edgesAtAny G v1 = some r) : dk_RdI l yX1_edgesAtAny wsX1_edgesAtAny ({ frames := 0, cells := 0, slots := 0, locals := 0 }) D cy [.ref hG, .int v1] (wNt cy hG aG G) r := by
  refine Met.ofW (cc := cX1_edgesAtAny) (maxL := 4) (ret := (some .int)) (by decide) rfl ?_
  intro p e s m args below meth c s₁ B hml hv
  obtain ⟨rfl, hP, hK⟩ := hv
  have hx := B.exec
  have hb := B.bytes
  have hr := B.returns
  have hts := atoms_spec (ws := wsX1_edgesAtAny) B.pre
  have hown : s.vm.findClass RX1 = some m.cls := findClass_of_methodNamed B.named
  have hlocks := B.notSynchronized
  have hl := lv_entry ([.ref hG, .int v1]) (n := 4) (Nat.le_of_ble_eq_true rfl)
  rw [lg_entry_eq]
  generalize (lg_sl ([.ref hG, .int v1]) ++ List.replicate (4 - (lg_sl ([.ref hG, .int v1])).length) Slot.unset).toArray = ls at hl ⊢
  have hl : lv_has ls 4 [(0, .ref hG), (1, .int v1)] := hl
  have L4 : ∀ (fu4 : Nat) (x1 : Int32) (x2 : Int32) (x3 : Int32) (ls : Array Slot), lv_has ls 4 [(0, .ref hG), (1, .int x1), (2, .int x2), (3, .int x3)] → fX1_edgesAtAny_L4 G fu4 x1 x2 x3 = some r → W p l e (headSpec wsX1_edgesAtAny ({ frames := 0, cells := 0, slots := 0, locals := 0 })).room s m ([.ref hG, .int v1]).toArray below meth c s.heap [] 0 0 (MQ below (vp_Si (fun x => x = r)) ([.ref hG, .int v1]).toArray s 0 0 (fun _ => False)) (F0 m 4 ls []) := by
    intro fu4
    induction fu4 with
    | zero =>
      intro x1 x2 x3 ls hl hf
      rw [fX1_edgesAtAny_L4] at hf
      cases hf
    | succ fu4 ih4 =>
      intro x1 x2 x3 ls hl hf
      rw [fX1_edgesAtAny_L4] at hf
      refine lv_iload_n hx hb dX1_edgesAtAny_4 rfl (lv_at hl 3 rfl) ?_
      refine lv_bipush (v := 8) hx hb dX1_edgesAtAny_5 (by decide) ?_
      refine dk_cge (tgt := 33) hx hb dX1_edgesAtAny_7 (by decide) hf (fun hf => ?_) (fun hf => ?_)
      · refine lv_iload_n hx hb dX1_edgesAtAny_33 rfl (lv_at hl 2 rfl) ?_
        exact W.iret (v := x2) hx hb hr (fun t ht hW => ⟨x2, rfl, Option.some.inj hf, ht⟩) t_nil dX1_edgesAtAny_34
      · refine lv_iload_n hx hb dX1_edgesAtAny_10 rfl (lv_at hl 1 rfl) ?_
        refine lv_iload_n hx hb dX1_edgesAtAny_11 rfl (lv_at hl 3 rfl) ?_
        refine lv_ishr hx hb dX1_edgesAtAny_12 ?_
        refine lv_iconst (v := 1) hx hb dX1_edgesAtAny_13 (by decide) ?_
        refine lv_iand hx hb dX1_edgesAtAny_14 ?_
        refine dk_ieq (tgt := 27) hx hb dX1_edgesAtAny_15 (by decide) hf (fun hf => ?_) (fun hf => ?_)
        · refine lv_iinc (v := x3 + 1) (lv' := [(3, .int (x3 + 1)), (0, .ref hG), (1, .int x1), (2, .int x2)]) hx hb dX1_edgesAtAny_27 hl (k := 3) rfl rfl (by decide) rfl (fun ls hl => ?_)
          refine lv_goto (tgt := 4) hx hb dX1_edgesAtAny_30 (by decide) ?_
          exact ih4 x1 x2 (x3 + 1) _ (lv_sub hl [1, 2, 3, 0] rfl) hf
        · refine lv_iload_n hx hb dX1_edgesAtAny_18 rfl (lv_at hl 2 rfl) ?_
          refine lv_aload_n hx hb dX1_edgesAtAny_19 rfl (lv_at hl 0 rfl) ?_
          refine va_get (D := D) (ci := 1) (v := .ref (aG 6)) (C := RX1) (T := TX1) (N := 9) hx hb hts iX1_edgesAtAny_X1 hown hK.1 hP 0 rfl rfl 6 (by decide) (hts (.fieldLink RX1 31 "DarkPlace$Net" "edgesAt" "[I") (List.mem_of_getElem? (i := 1) rfl)) (fun _ h9 => h9) rfl dX1_edgesAtAny_20 ?_
          refine lv_iload_n hx hb dX1_edgesAtAny_23 rfl (lv_at hl 3 rfl) ?_
          refine dk_iald hx hb hK.1 hP 2 0 rfl rfl hf dX1_edgesAtAny_24 (fun d24 hf => ?_)
          refine lv_ior hx hb dX1_edgesAtAny_25 ?_
          refine lv_istore_n (lv' := [(2, .int (x2 ||| d24)), (0, .ref hG), (1, .int x1), (3, .int x3)]) hx hb dX1_edgesAtAny_26 rfl hl (by decide) rfl (fun ls hl => ?_)
          refine lv_iinc (v := x3 + 1) (lv' := [(3, .int (x3 + 1)), (2, .int (x2 ||| d24)), (0, .ref hG), (1, .int x1)]) hx hb dX1_edgesAtAny_27 hl (k := 3) rfl rfl (by decide) rfl (fun ls hl => ?_)
          refine lv_goto (tgt := 4) hx hb dX1_edgesAtAny_30 (by decide) ?_
          exact ih4 x1 (x2 ||| d24) (x3 + 1) _ (lv_sub hl [2, 3, 1, 0] rfl) hf
  unfold fX1_edgesAtAny at hf
  refine lv_iconst (v := 0) hx hb dX1_edgesAtAny_0 (by decide) ?_
  refine lv_istore_n (lv' := [(2, .int 0), (0, .ref hG), (1, .int v1)]) hx hb dX1_edgesAtAny_1 rfl hl (by decide) rfl (fun ls hl => ?_)
  refine lv_iconst (v := 0) hx hb dX1_edgesAtAny_2 (by decide) ?_
  refine lv_istore_n (lv' := [(3, .int 0), (2, .int 0), (0, .ref hG), (1, .int v1)]) hx hb dX1_edgesAtAny_3 rfl hl (by decide) rfl (fun ls hl => ?_)
  exact L4 1000 v1 0 0 _ (lv_sub hl [2, 3, 1, 0] rfl) hf
theorem iX1_endsOf_X1 : ∀ w ∈ wsX10, w ∈ wsX1_endsOf := fun _ h => List.mem_cons_of_mem _ (List.mem_append_right _ h)
set_option maxHeartbeats 4000000 in
set_option maxRecDepth 100000 in
theorem kX1_endsOf (l : Launch) (D : va_G) (cy : Nat → ClassId) (hG : Nat) (aG : Nat → Nat) (G : dk_O) (v1 : Int32) (r : Int32) (hf : fX1_endsOf G v1 = some r) : dk_RdI l yX1_endsOf wsX1_endsOf ({ frames := 0, cells := 0, slots := 0, locals := 0 }) D cy [.ref hG, .int v1] (wNt cy hG aG G) r := by
  refine Met.ofW (cc := cX1_endsOf) (maxL := 4) (ret := (some .int)) (by decide) rfl ?_
  intro p e s m args below meth c s₁ B hml hv
  obtain ⟨rfl, hP, hK⟩ := hv
  have hx := B.exec
  have hb := B.bytes
  have hr := B.returns
  have hts := atoms_spec (ws := wsX1_endsOf) B.pre
  have hown : s.vm.findClass RX1 = some m.cls := findClass_of_methodNamed B.named
  have hlocks := B.notSynchronized
  have hl := lv_entry ([.ref hG, .int v1]) (n := 4) (Nat.le_of_ble_eq_true rfl)
  rw [lg_entry_eq]
  generalize (lg_sl ([.ref hG, .int v1]) ++ List.replicate (4 - (lg_sl ([.ref hG, .int v1])).length) Slot.unset).toArray = ls at hl ⊢
  have hl : lv_has ls 4 [(0, .ref hG), (1, .int v1)] := hl
  have L4 : ∀ (fu4 : Nat) (x1 : Int32) (x2 : Int32) (x3 : Int32) (ls : Array Slot), lv_has ls 4 [(0, .ref hG), (1, .int x1), (2, .int x2), (3, .int x3)] → fX1_endsOf_L4 G fu4 x1 x2 x3 = some r → W p l e (headSpec wsX1_endsOf ({ frames := 0, cells := 0, slots := 0, locals := 0 })).room s m ([.ref hG, .int v1]).toArray below meth c s.heap [] 0 0 (MQ below (vp_Si (fun x => x = r)) ([.ref hG, .int v1]).toArray s 0 0 (fun _ => False)) (F0 m 4 ls []) := by
    intro fu4
    induction fu4 with
    | zero =>
      intro x1 x2 x3 ls hl hf
      rw [fX1_endsOf_L4] at hf
      cases hf
    | succ fu4 ih4 =>
      intro x1 x2 x3 ls hl hf
      rw [fX1_endsOf_L4] at hf
      refine lv_iload_n hx hb dX1_endsOf_4 rfl (lv_at hl 3 rfl) ?_
      refine lv_aload_n hx hb dX1_endsOf_5 rfl (lv_at hl 0 rfl) ?_
      refine va_get (D := D) (ci := 1) (v := .int (G.1 4)) (C := RX1) (T := TX1) (N := 9) hx hb hts iX1_endsOf_X1 hown hK.1 hP 0 rfl rfl 4 (by decide) (hts (.fieldLink RX1 24 "DarkPlace$Net" "edges" "I") (List.mem_of_getElem? (i := 1) rfl)) (fun _ h9 => h9) rfl dX1_endsOf_6 ?_
      refine dk_cge (tgt := 35) hx hb dX1_endsOf_9 (by decide) hf (fun hf => ?_) (fun hf => ?_)
      · refine lv_iload_n hx hb dX1_endsOf_35 rfl (lv_at hl 2 rfl) ?_
        exact W.iret (v := x2) hx hb hr (fun t ht hW => ⟨x2, rfl, Option.some.inj hf, ht⟩) t_nil dX1_endsOf_36
      · refine lv_iload_n hx hb dX1_endsOf_12 rfl (lv_at hl 1 rfl) ?_
        refine lv_iload_n hx hb dX1_endsOf_13 rfl (lv_at hl 3 rfl) ?_
        refine lv_ishr hx hb dX1_endsOf_14 ?_
        refine lv_iconst (v := 1) hx hb dX1_endsOf_15 (by decide) ?_
        refine lv_iand hx hb dX1_endsOf_16 ?_
        refine dk_ieq (tgt := 29) hx hb dX1_endsOf_17 (by decide) hf (fun hf => ?_) (fun hf => ?_)
        · refine lv_iinc (v := x3 + 1) (lv' := [(3, .int (x3 + 1)), (0, .ref hG), (1, .int x1), (2, .int x2)]) hx hb dX1_endsOf_29 hl (k := 3) rfl rfl (by decide) rfl (fun ls hl => ?_)
          refine lv_goto (tgt := 4) hx hb dX1_endsOf_32 (by decide) ?_
          exact ih4 x1 x2 (x3 + 1) _ (lv_sub hl [1, 2, 3, 0] rfl) hf
        · refine lv_iload_n hx hb dX1_endsOf_20 rfl (lv_at hl 2 rfl) ?_
          refine lv_aload_n hx hb dX1_endsOf_21 rfl (lv_at hl 0 rfl) ?_
          refine va_get (D := D) (ci := 1) (v := .ref (aG 5)) (C := RX1) (T := TX1) (N := 9) hx hb hts iX1_endsOf_X1 hown hK.1 hP 0 rfl rfl 5 (by decide) (hts (.fieldLink RX1 27 "DarkPlace$Net" "ends" "[I") (List.mem_of_getElem? (i := 2) rfl)) (fun _ h9 => h9) rfl dX1_endsOf_22 ?_
          refine lv_iload_n hx hb dX1_endsOf_25 rfl (lv_at hl 3 rfl) ?_
          refine dk_iald hx hb hK.1 hP 1 0 rfl rfl hf dX1_endsOf_26 (fun d26 hf => ?_)
          refine lv_ior hx hb dX1_endsOf_27 ?_
          refine lv_istore_n (lv' := [(2, .int (x2 ||| d26)), (0, .ref hG), (1, .int x1), (3, .int x3)]) hx hb dX1_endsOf_28 rfl hl (by decide) rfl (fun ls hl => ?_)
          refine lv_iinc (v := x3 + 1) (lv' := [(3, .int (x3 + 1)), (2, .int (x2 ||| d26)), (0, .ref hG), (1, .int x1)]) hx hb dX1_endsOf_29 hl (k := 3) rfl rfl (by decide) rfl (fun ls hl => ?_)
          refine lv_goto (tgt := 4) hx hb dX1_endsOf_32 (by decide) ?_
          exact ih4 x1 (x2 ||| d26) (x3 + 1) _ (lv_sub hl [2, 3, 1, 0] rfl) hf
  unfold fX1_endsOf at hf
  refine lv_iconst (v := 0) hx hb dX1_endsOf_0 (by decide) ?_
  refine lv_istore_n (lv' := [(2, .int 0), (0, .ref hG), (1, .int v1)]) hx hb dX1_endsOf_1 rfl hl (by decide) rfl (fun ls hl => ?_)
  refine lv_iconst (v := 0) hx hb dX1_endsOf_2 (by decide) ?_
  refine lv_istore_n (lv' := [(3, .int 0), (2, .int 0), (0, .ref hG), (1, .int v1)]) hx hb dX1_endsOf_3 rfl hl (by decide) rfl (fun ls hl => ?_)
  exact L4 1000 v1 0 0 _ (lv_sub hl [2, 3, 1, 0] rfl) hf
theorem iX1_widened_X1 : ∀ w ∈ wsX10, w ∈ wsX1_widened := fun _ h => List.mem_cons_of_mem _ (List.mem_append_right _ h)
set_option maxHeartbeats 4000000 in
set_option maxRecDepth 100000 in
theorem kX1_widened (l : Launch) (D : va_G) (cy : Nat → ClassId) (hG : Nat) (aG : Nat → Nat) (G : dk_O) (v1 : Int32) (v2 : Int32) (r : Int32) (hf : fX1_widened G v1 v2 = some r) : dk_RdI l yX1_widened wsX1_widened ({ frames := 0, cells := 0, slots := 0, locals := 0 }) D cy [.ref hG, .int v1, .int v2] (wNt cy hG aG G) r := by
  refine Met.ofW (cc := cX1_widened) (maxL := 5) (ret := (some .int)) (by decide) rfl ?_
  intro p e s m args below meth c s₁ B hml hv
  obtain ⟨rfl, hP, hK⟩ := hv
  have hx := B.exec
  have hb := B.bytes
  have hr := B.returns
  have hts := atoms_spec (ws := wsX1_widened) B.pre
  have hown : s.vm.findClass RX1 = some m.cls := findClass_of_methodNamed B.named
  have hlocks := B.notSynchronized
  have hl := lv_entry ([.ref hG, .int v1, .int v2]) (n := 5) (Nat.le_of_ble_eq_true rfl)
  rw [lg_entry_eq]
  generalize (lg_sl ([.ref hG, .int v1, .int v2]) ++ List.replicate (5 - (lg_sl ([.ref hG, .int v1, .int v2])).length) Slot.unset).toArray = ls at hl ⊢
  have hl : lv_has ls 5 [(0, .ref hG), (1, .int v1), (2, .int v2)] := hl
  have L5 : ∀ (fu5 : Nat) (x1 : Int32) (x2 : Int32) (x3 : Int32) (x4 : Int32) (ls : Array Slot), lv_has ls 5 [(0, .ref hG), (1, .int x1), (2, .int x2), (3, .int x3), (4, .int x4)] → fX1_widened_L5 G fu5 x1 x2 x3 x4 = some r → W p l e (headSpec wsX1_widened ({ frames := 0, cells := 0, slots := 0, locals := 0 })).room s m ([.ref hG, .int v1, .int v2]).toArray below meth c s.heap [] 0 0 (MQ below (vp_Si (fun x => x = r)) ([.ref hG, .int v1, .int v2]).toArray s 0 0 (fun _ => False)) (F0 m 5 ls []) := by
    intro fu5
    induction fu5 with
    | zero =>
      intro x1 x2 x3 x4 ls hl hf
      rw [fX1_widened_L5] at hf
      cases hf
    | succ fu5 ih5 =>
      intro x1 x2 x3 x4 ls hl hf
      rw [fX1_widened_L5] at hf
      refine lv_iload hx hb dX1_widened_5 (lv_at hl 4 rfl) ?_
      refine lv_aload_n hx hb dX1_widened_7 rfl (lv_at hl 0 rfl) ?_
      refine va_get (D := D) (ci := 1) (v := .int (G.1 4)) (C := RX1) (T := TX1) (N := 9) hx hb hts iX1_widened_X1 hown hK.1 hP 0 rfl rfl 4 (by decide) (hts (.fieldLink RX1 24 "DarkPlace$Net" "edges" "I") (List.mem_of_getElem? (i := 1) rfl)) (fun _ h9 => h9) rfl dX1_widened_8 ?_
      refine dk_cge (tgt := 51) hx hb dX1_widened_11 (by decide) hf (fun hf => ?_) (fun hf => ?_)
      · refine lv_iload_n hx hb dX1_widened_51 rfl (lv_at hl 3 rfl) ?_
        exact W.iret (v := x3) hx hb hr (fun t ht hW => ⟨x3, rfl, Option.some.inj hf, ht⟩) t_nil dX1_widened_52
      · refine lv_iload_n hx hb dX1_widened_14 rfl (lv_at hl 2 rfl) ?_
        refine lv_iload hx hb dX1_widened_15 (lv_at hl 4 rfl) ?_
        refine lv_ishr hx hb dX1_widened_17 ?_
        refine lv_iconst (v := 1) hx hb dX1_widened_18 (by decide) ?_
        refine lv_iand hx hb dX1_widened_19 ?_
        refine dk_ieq (tgt := 45) hx hb dX1_widened_20 (by decide) hf (fun hf => ?_) (fun hf => ?_)
        · refine lv_iinc (v := x4 + 1) (lv' := [(4, .int (x4 + 1)), (0, .ref hG), (1, .int x1), (2, .int x2), (3, .int x3)]) hx hb dX1_widened_45 hl (k := 4) rfl rfl (by decide) rfl (fun ls hl => ?_)
          refine lv_goto (tgt := 5) hx hb dX1_widened_48 (by decide) ?_
          exact ih5 x1 x2 x3 (x4 + 1) _ (lv_sub hl [1, 2, 3, 4, 0] rfl) hf
        · refine lv_aload_n hx hb dX1_widened_23 rfl (lv_at hl 0 rfl) ?_
          refine va_get (D := D) (ci := 1) (v := .ref (aG 5)) (C := RX1) (T := TX1) (N := 9) hx hb hts iX1_widened_X1 hown hK.1 hP 0 rfl rfl 5 (by decide) (hts (.fieldLink RX1 27 "DarkPlace$Net" "ends" "[I") (List.mem_of_getElem? (i := 2) rfl)) (fun _ h9 => h9) rfl dX1_widened_24 ?_
          refine lv_iload hx hb dX1_widened_27 (lv_at hl 4 rfl) ?_
          refine dk_iald hx hb hK.1 hP 1 0 rfl rfl hf dX1_widened_29 (fun d29 hf => ?_)
          refine lv_iload_n hx hb dX1_widened_30 rfl (lv_at hl 1 rfl) ?_
          refine lv_iand hx hb dX1_widened_31 ?_
          refine dk_ieq (tgt := 45) hx hb dX1_widened_32 (by decide) hf (fun hf => ?_) (fun hf => ?_)
          · refine lv_iinc (v := x4 + 1) (lv' := [(4, .int (x4 + 1)), (0, .ref hG), (1, .int x1), (2, .int x2), (3, .int x3)]) hx hb dX1_widened_45 hl (k := 4) rfl rfl (by decide) rfl (fun ls hl => ?_)
            refine lv_goto (tgt := 5) hx hb dX1_widened_48 (by decide) ?_
            exact ih5 x1 x2 x3 (x4 + 1) _ (lv_sub hl [1, 2, 3, 4, 0] rfl) hf
          · refine lv_iload_n hx hb dX1_widened_35 rfl (lv_at hl 3 rfl) ?_
            refine lv_aload_n hx hb dX1_widened_36 rfl (lv_at hl 0 rfl) ?_
            refine va_get (D := D) (ci := 1) (v := .ref (aG 5)) (C := RX1) (T := TX1) (N := 9) hx hb hts iX1_widened_X1 hown hK.1 hP 0 rfl rfl 5 (by decide) (hts (.fieldLink RX1 27 "DarkPlace$Net" "ends" "[I") (List.mem_of_getElem? (i := 2) rfl)) (fun _ h9 => h9) rfl dX1_widened_37 ?_
            refine lv_iload hx hb dX1_widened_40 (lv_at hl 4 rfl) ?_
            refine dk_iald hx hb hK.1 hP 1 0 rfl rfl hf dX1_widened_42 (fun d42 hf => ?_)
            refine lv_ior hx hb dX1_widened_43 ?_
            refine lv_istore_n (lv' := [(3, .int (x3 ||| d42)), (0, .ref hG), (1, .int x1), (2, .int x2), (4, .int x4)]) hx hb dX1_widened_44 rfl hl (by decide) rfl (fun ls hl => ?_)
            refine lv_iinc (v := x4 + 1) (lv' := [(4, .int (x4 + 1)), (3, .int (x3 ||| d42)), (0, .ref hG), (1, .int x1), (2, .int x2)]) hx hb dX1_widened_45 hl (k := 4) rfl rfl (by decide) rfl (fun ls hl => ?_)
            refine lv_goto (tgt := 5) hx hb dX1_widened_48 (by decide) ?_
            exact ih5 x1 x2 (x3 ||| d42) (x4 + 1) _ (lv_sub hl [2, 3, 4, 1, 0] rfl) hf
  unfold fX1_widened at hf
  refine lv_iload_n hx hb dX1_widened_0 rfl (lv_at hl 1 rfl) ?_
  refine lv_istore_n (lv' := [(3, .int v1), (0, .ref hG), (1, .int v1), (2, .int v2)]) hx hb dX1_widened_1 rfl hl (by decide) rfl (fun ls hl => ?_)
  refine lv_iconst (v := 0) hx hb dX1_widened_2 (by decide) ?_
  refine lv_istore (lv' := [(4, .int 0), (3, .int v1), (0, .ref hG), (1, .int v1), (2, .int v2)]) hx hb dX1_widened_3 hl (by decide) rfl (fun ls hl => ?_)
  exact L5 1000 v1 v2 v1 0 _ (lv_sub hl [2, 3, 4, 1, 0] rfl) hf
