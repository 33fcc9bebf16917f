-- printed by wip/gen (walks of the bytecode)
theorem iX5_write_X5 : ∀ w ∈ wsX50, w ∈ wsX5_write := fun _ h => List.mem_cons_of_mem _ (List.mem_append_left _ (List.mem_append_right _ h))
set_option maxHeartbeats 4000000 in
set_option maxRecDepth 100000 in
theorem kX5_write (l : Launch) (D : va_G) (cy : Nat → ClassId) (hQ : Nat) (aQ : Nat → Nat) (sdQ : Int64) (aX : Nat → Nat) (sz : Nat) (Q : dk_O) (X : dk_O) (v1 : Int32) (r : Int32) (oX_I : (Nat → Int32)) (oX_0 : (Nat → Int32)) (hf : fX5_write Q X v1 = some (r, oX_I, oX_0)) : dk_MuI l yX5_write wsX5_write ({ frames := 2, cells := 0, slots := 0, locals := 41 }) D cy [.ref hQ, .int v1] (wDp cy hQ aQ sdQ Q ++ wTx cy (aQ 0) aX X) (wDp cy hQ aQ sdQ Q ++ wTx cy (aQ 0) aX (oX_I, dk_upA X.2 0 oX_0)) sz r := by
  refine Met.ofW (cc := cX5_write) (maxL := 2) (ret := (some .int)) (by decide) rfl ?_
  intro p e s m args below meth c s₁ B hml hv
  obtain ⟨rfl, hsz, hP, hK, hD0⟩ := hv
  have hx := B.exec
  have hb := B.bytes
  have hr := B.returns
  have hts := atoms_spec (ws := wsX5_write) B.pre
  have hown : s.vm.findClass RX5 = some m.cls := findClass_of_methodNamed B.named
  have hlocks := B.notSynchronized
  subst hsz
  have hD := hD0.self (sz := s.heap.size)
  generalize hAe : va_A (wDp cy hQ aQ sdQ Q ++ wTx cy (aQ 0) aX X) s.heap.size = A at hD ⊢
  have hA : ∀ q : Nat, s.heap.size ≤ q → A q := fun q h => by rw [← hAe]; exact Or.inr h
  have hS : va_S A s.heap s.heap [] := va_S.rf
  have hl := lv_entry ([.ref hQ, .int v1]) (n := 2) (Nat.le_of_ble_eq_true rfl)
  rw [lg_entry_eq]
  generalize (lg_sl ([.ref hQ, .int v1]) ++ List.replicate (2 - (lg_sl ([.ref hQ, .int v1])).length) Slot.unset).toArray = ls at hl ⊢
  have hl : lv_has ls 2 [(0, .ref hQ), (1, .int v1)] := hl
  unfold fX5_write at hf
  refine lv_iload_n hx hb dX5_write_0 rfl (lv_at hl 1 rfl) ?_
  refine dk_ilt (tgt := 11) hx hb dX5_write_1 (by decide) hf (fun hf => ?_) (fun hf => ?_)
  · refine lv_bipush (v := (-2)) hx hb dX5_write_11 (by decide) ?_
    have e := Option.some.inj hf
    simp only [Prod.mk.injEq] at e
    obtain ⟨e0, e1, e2⟩ := e
    subst e1
    subst e2
    exact W.iret (v := (-2)) hx hb hr (fun t ht hW => ⟨⟨(-2), (), rfl, e0, by rw [ht]; exact hP, hD⟩, hS.F ht⟩) hS.2.2 dX5_write_13
  · refine lv_iload_n hx hb dX5_write_4 rfl (lv_at hl 1 rfl) ?_
    refine lv_sipush (v := 255) hx hb dX5_write_5 (by decide) ?_
    refine dk_cle (tgt := 14) hx hb dX5_write_8 (by decide) hf (fun hf => ?_) (fun hf => ?_)
    · refine lv_aload_n hx hb dX5_write_14 rfl (lv_at hl 0 rfl) ?_
      refine va_get (D := D) (ci := 5) (v := .ref (aQ 0)) (C := RX5) (T := TX5) (N := 10) hx hb hts iX5_write_X5 hown hK.1 hP 0 rfl rfl 0 (by decide) (hts (.fieldLink RX5 12 "DarkPlace" "text" "LDarkPlace$Text;") (List.mem_of_getElem? (i := 1) rfl)) (fun _ h9 => h9) rfl dX5_write_15 ?_
      obtain ⟨r18, k18, hf⟩ := dk_bind hf
      refine dk_ri (va_runV (As := []) (rest := []) ⟨hx, hb, hml, hown, hts⟩ (kX4_isFull l D cy (aQ 0) aX X r18 k18) (cwV 0 hts gX5_write_X4_isFull rfl rfl rfl (by decide +kernel) ⟨Nat.le_of_ble_eq_true rfl, Nat.le_of_ble_eq_true rfl⟩) (dk_preV hK (hP.sub (ws' := wTx cy (aQ 0) aX X) [2, 3] rfl) (ci := 4) (q0 := 0) rfl rfl) rfl rfl hl.1 rfl (lv_room (Nat.le_of_ble_eq_true rfl)) dX5_write_18 ⟨Nat.zero_le _, Nat.zero_le _⟩) ?_
      refine dk_ieq (tgt := 27) hx hb dX5_write_21 (by decide) hf (fun hf => ?_) (fun hf => ?_)
      · refine lv_aload_n hx hb dX5_write_27 rfl (lv_at hl 0 rfl) ?_
        refine va_get (D := D) (ci := 5) (v := .ref (aQ 0)) (C := RX5) (T := TX5) (N := 10) hx hb hts iX5_write_X5 hown hK.1 hP 0 rfl rfl 0 (by decide) (hts (.fieldLink RX5 12 "DarkPlace" "text" "LDarkPlace$Text;") (List.mem_of_getElem? (i := 1) rfl)) (fun _ h9 => h9) rfl dX5_write_28 ?_
        refine lv_iload_n hx hb dX5_write_31 rfl (lv_at hl 1 rfl) ?_
        obtain ⟨⟨r32, i32_0, g32_1⟩, k32, hf⟩ := dk_bind hf
        dsimp only at hf
        have hPc := hP.sub (ws' := wTx cy (aQ 0) aX X) [2, 3] rfl
        have hDc := hD.sub (ws' := wTx cy (aQ 0) aX X) [2, 3] (by decide) rfl
        have hFc := va_free (wc := wTx cy (aQ 0) aX X) hD hS hA [2, 3] rfl
        refine va_calli (va_runV (As := [.int v1]) (rest := []) ⟨hx, hb, hml, hown, hts⟩ (kX4_add l D cy (aQ 0) aX s.heap.size X v1 r32 i32_0 g32_1 k32) (cwV 1 hts gX5_write_X4_add rfl rfl rfl (by decide +kernel) ⟨Nat.le_of_ble_eq_true rfl, Nat.le_of_ble_eq_true rfl⟩) (dk_premV hK hPc hDc (ci := 4) (q0 := 0) rfl rfl) rfl rfl hl.1 rfl (lv_room (Nat.le_of_ble_eq_true rfl)) dX5_write_32 ⟨Nat.zero_le _, Nat.zero_le _⟩) hS (fun q _ h => hFc q h) hFc (fun xr32 u t H1 locs ht hvm hw hB hz1 hk1 hS => ?_)
        obtain ⟨hP1, hD1⟩ := hB
        rw [ht] at hP1
        rw [hw]
        obtain ⟨hP, hD⟩ := va_join (wr := ([0, 1] : List Nat).filterMap (fun i => (wDp cy hQ aQ sdQ Q ++ wTx cy (aQ 0) aX X)[i]?)) (w1 := wTx cy (aQ 0) aX (i32_0, dk_upA X.2 0 g32_1)) hP hD [2, 3] [0, 1] rfl rfl (by decide) (by decide) hk1 hFc hP1 hD1
        generalize H1 = H at hP hS ⊢
        have hP : va_P D vwCl (wDp cy hQ aQ sdQ Q ++ wTx cy (aQ 0) aX (i32_0, dk_upA X.2 0 g32_1)) H := hP.sub [0, 1, 2, 3] rfl
        have hD : va_D A (wDp cy hQ aQ sdQ Q ++ wTx cy (aQ 0) aX (i32_0, dk_upA X.2 0 g32_1)) := hD.sub [0, 1, 2, 3] (by decide) rfl
        have e := Option.some.inj hf
        simp only [Prod.mk.injEq] at e
        obtain ⟨e0, e1, e2⟩ := e
        subst e1
        subst e2
        exact W.iret (v := r32) hx hb hr (fun t ht hW => ⟨⟨r32, (), rfl, e0, by rw [ht]; exact hP, hD⟩, hS.F ht⟩) hS.2.2 dX5_write_35
      · refine lv_bipush (v := (-4)) hx hb dX5_write_24 (by decide) ?_
        have e := Option.some.inj hf
        simp only [Prod.mk.injEq] at e
        obtain ⟨e0, e1, e2⟩ := e
        subst e1
        subst e2
        exact W.iret (v := (-4)) hx hb hr (fun t ht hW => ⟨⟨(-4), (), rfl, e0, by rw [ht]; exact hP, hD⟩, hS.F ht⟩) hS.2.2 dX5_write_26
    · refine lv_bipush (v := (-2)) hx hb dX5_write_11 (by decide) ?_
      have e := Option.some.inj hf
      simp only [Prod.mk.injEq] at e
      obtain ⟨e0, e1, e2⟩ := e
      subst e1
      subst e2
      exact W.iret (v := (-2)) hx hb hr (fun t ht hW => ⟨⟨(-2), (), rfl, e0, by rw [ht]; exact hP, hD⟩, hS.F ht⟩) hS.2.2 dX5_write_13
theorem iX5_wipe_X5 : ∀ w ∈ wsX50, w ∈ wsX5_wipe := fun _ h => List.mem_cons_of_mem _ (List.mem_append_left _ (List.mem_append_right _ h))
set_option maxHeartbeats 4000000 in
set_option maxRecDepth 100000 in
theorem kX5_wipe (l : Launch) (D : va_G) (cy : Nat → ClassId) (hQ : Nat) (aQ : Nat → Nat) (sdQ : Int64) (aX : Nat → Nat) (sz : Nat) (Q : dk_O) (X : dk_O)  (r : Int32) (oX_I : (Nat → Int32)) (hf : fX5_wipe Q X = some (r, oX_I)) : dk_MuI l yX5_wipe wsX5_wipe ({ frames := 1, cells := 0, slots := 0, locals := 21 }) D cy [.ref hQ] (wDp cy hQ aQ sdQ Q ++ wTx cy (aQ 0) aX X) (wDp cy hQ aQ sdQ Q ++ wTx cy (aQ 0) aX (oX_I, X.2)) sz r := by
  refine Met.ofW (cc := cX5_wipe) (maxL := 1) (ret := (some .int)) (by decide) rfl ?_
  intro p e s m args below meth c s₁ B hml hv
  obtain ⟨rfl, hsz, hP, hK, hD0⟩ := hv
  have hx := B.exec
  have hb := B.bytes
  have hr := B.returns
  have hts := atoms_spec (ws := wsX5_wipe) B.pre
  have hown : s.vm.findClass RX5 = some m.cls := findClass_of_methodNamed B.named
  have hlocks := B.notSynchronized
  subst hsz
  have hD := hD0.self (sz := s.heap.size)
  generalize hAe : va_A (wDp cy hQ aQ sdQ Q ++ wTx cy (aQ 0) aX X) s.heap.size = A at hD ⊢
  have hA : ∀ q : Nat, s.heap.size ≤ q → A q := fun q h => by rw [← hAe]; exact Or.inr h
  have hS : va_S A s.heap s.heap [] := va_S.rf
  have hl := lv_entry ([.ref hQ]) (n := 1) (Nat.le_of_ble_eq_true rfl)
  rw [lg_entry_eq]
  generalize (lg_sl ([.ref hQ]) ++ List.replicate (1 - (lg_sl ([.ref hQ])).length) Slot.unset).toArray = ls at hl ⊢
  have hl : lv_has ls 1 [(0, .ref hQ)] := hl
  unfold fX5_wipe at hf
  refine lv_aload_n hx hb dX5_wipe_0 rfl (lv_at hl 0 rfl) ?_
  refine va_get (D := D) (ci := 5) (v := .ref (aQ 0)) (C := RX5) (T := TX5) (N := 10) hx hb hts iX5_wipe_X5 hown hK.1 hP 0 rfl rfl 0 (by decide) (hts (.fieldLink RX5 12 "DarkPlace" "text" "LDarkPlace$Text;") (List.mem_of_getElem? (i := 1) rfl)) (fun _ h9 => h9) rfl dX5_wipe_1 ?_
  obtain ⟨⟨r4, i4_0⟩, k4, hf⟩ := dk_bind hf
  dsimp only at hf
  have hPc := hP.sub (ws' := wTx cy (aQ 0) aX X) [2, 3] rfl
  have hDc := hD.sub (ws' := wTx cy (aQ 0) aX X) [2, 3] (by decide) rfl
  have hFc := va_free (wc := wTx cy (aQ 0) aX X) hD hS hA [2, 3] rfl
  refine va_calli (va_runV (As := []) (rest := []) ⟨hx, hb, hml, hown, hts⟩ (kX4_clear l D cy (aQ 0) aX s.heap.size X r4 i4_0 k4) (cwV 0 hts gX5_wipe_X4_clear rfl rfl rfl (by decide +kernel) ⟨Nat.le_of_ble_eq_true rfl, Nat.le_of_ble_eq_true rfl⟩) (dk_premV hK hPc hDc (ci := 4) (q0 := 0) rfl rfl) rfl rfl hl.1 rfl (lv_room (Nat.le_of_ble_eq_true rfl)) dX5_wipe_4 ⟨Nat.zero_le _, Nat.zero_le _⟩) hS (fun q _ h => hFc q h) hFc (fun xr4 u t H1 locs ht hvm hw hB hz1 hk1 hS => ?_)
  obtain ⟨hP1, hD1⟩ := hB
  rw [ht] at hP1
  rw [hw]
  obtain ⟨hP, hD⟩ := va_join (wr := ([0, 1] : List Nat).filterMap (fun i => (wDp cy hQ aQ sdQ Q ++ wTx cy (aQ 0) aX X)[i]?)) (w1 := wTx cy (aQ 0) aX (i4_0, X.2)) hP hD [2, 3] [0, 1] rfl rfl (by decide) (by decide) hk1 hFc hP1 hD1
  generalize H1 = H at hP hS ⊢
  have hP : va_P D vwCl (wDp cy hQ aQ sdQ Q ++ wTx cy (aQ 0) aX (i4_0, X.2)) H := hP.sub [0, 1, 2, 3] rfl
  have hD : va_D A (wDp cy hQ aQ sdQ Q ++ wTx cy (aQ 0) aX (i4_0, X.2)) := hD.sub [0, 1, 2, 3] (by decide) rfl
  have e := Option.some.inj hf
  simp only [Prod.mk.injEq] at e
  obtain ⟨e0, e1⟩ := e
  subst e1
  exact W.iret (v := r4) hx hb hr (fun t ht hW => ⟨⟨r4, (), rfl, e0, by rw [ht]; exact hP, hD⟩, hS.F ht⟩) hS.2.2 dX5_wipe_7
theorem iX5_fault_X5 : ∀ w ∈ wsX50, w ∈ wsX5_fault := fun _ h => List.mem_cons_of_mem _ (List.mem_append_left _ (List.mem_append_left _ (List.mem_append_right _ h)))
set_option maxHeartbeats 4000000 in
set_option maxRecDepth 100000 in
theorem kX5_fault (l : Launch) (D : va_G) (cy : Nat → ClassId) (hQ : Nat) (aQ : Nat → Nat) (sdQ : Int64) (aX : Nat → Nat) (aN : Nat → Nat) (sz : Nat) (Q : dk_O) (X : dk_O) (N : dk_O)  (r : Int32) (oN_I : (Nat → Int32)) (oN_5 : (Nat → Int32)) (oN_6 : (Nat → Int32)) (oN_8 : (Nat → Int32)) (hf : fX5_fault Q X N = some (r, oN_I, oN_5, oN_6, oN_8)) : dk_MuI l yX5_fault wsX5_fault ({ frames := 5, cells := 0, slots := 0, locals := 111 }) D cy [.ref hQ] (wDp cy hQ aQ sdQ Q ++ wTx cy (aQ 0) aX X ++ wNt cy (aQ 2) aN N) (wDp cy hQ aQ sdQ Q ++ wTx cy (aQ 0) aX X ++ wNt cy (aQ 2) aN (oN_I, dk_upA (dk_upA (dk_upA N.2 5 oN_5) 6 oN_6) 8 oN_8)) sz r := by
  refine Met.ofW (cc := cX5_fault) (maxL := 1) (ret := (some .int)) (by decide) rfl ?_
  intro p e s m args below meth c s₁ B hml hv
  obtain ⟨rfl, hsz, hP, hK, hD0⟩ := hv
  have hx := B.exec
  have hb := B.bytes
  have hr := B.returns
  have hts := atoms_spec (ws := wsX5_fault) B.pre
  have hown : s.vm.findClass RX5 = some m.cls := findClass_of_methodNamed B.named
  have hlocks := B.notSynchronized
  subst hsz
  have hD := hD0.self (sz := s.heap.size)
  generalize hAe : va_A (wDp cy hQ aQ sdQ Q ++ wTx cy (aQ 0) aX X ++ wNt cy (aQ 2) aN N) s.heap.size = A at hD ⊢
  have hA : ∀ q : Nat, s.heap.size ≤ q → A q := fun q h => by rw [← hAe]; exact Or.inr h
  have hS : va_S A s.heap s.heap [] := va_S.rf
  have hl := lv_entry ([.ref hQ]) (n := 1) (Nat.le_of_ble_eq_true rfl)
  rw [lg_entry_eq]
  generalize (lg_sl ([.ref hQ]) ++ List.replicate (1 - (lg_sl ([.ref hQ])).length) Slot.unset).toArray = ls at hl ⊢
  have hl : lv_has ls 1 [(0, .ref hQ)] := hl
  unfold fX5_fault at hf
  refine lv_aload_n hx hb dX5_fault_0 rfl (lv_at hl 0 rfl) ?_
  refine va_get (D := D) (ci := 5) (v := .ref (aQ 0)) (C := RX5) (T := TX5) (N := 10) hx hb hts iX5_fault_X5 hown hK.1 hP 0 rfl rfl 0 (by decide) (hts (.fieldLink RX5 12 "DarkPlace" "text" "LDarkPlace$Text;") (List.mem_of_getElem? (i := 1) rfl)) (fun _ h9 => h9) rfl dX5_fault_1 ?_
  refine lv_aload_n hx hb dX5_fault_4 rfl (lv_at hl 0 rfl) ?_
  refine va_get (D := D) (ci := 5) (v := .ref (aQ 2)) (C := RX5) (T := TX5) (N := 10) hx hb hts iX5_fault_X5 hown hK.1 hP 0 rfl rfl 2 (by decide) (hts (.fieldLink RX5 23 "DarkPlace" "draft" "LDarkPlace$Net;") (List.mem_of_getElem? (i := 2) rfl)) (fun _ h9 => h9) rfl dX5_fault_5 ?_
  obtain ⟨⟨r8, i8_0, g8_1, g8_2, g8_3⟩, k8, hf⟩ := dk_bind hf
  dsimp only at hf
  have hPc := hP.sub (ws' := wTx cy (aQ 0) aX X ++ wNt cy (aQ 2) aN N) [2, 3, 4, 5, 6, 7] rfl
  have hDc := hD.sub (ws' := wTx cy (aQ 0) aX X ++ wNt cy (aQ 2) aN N) [2, 3, 4, 5, 6, 7] (by decide) rfl
  have hFc := va_free (wc := wTx cy (aQ 0) aX X ++ wNt cy (aQ 2) aN N) hD hS hA [2, 3, 4, 5, 6, 7] rfl
  refine va_calli (va_runV (As := [.ref (aQ 2)]) (rest := []) ⟨hx, hb, hml, hown, hts⟩ (kX4_readInto l D cy (aQ 0) aX (aQ 2) aN s.heap.size X N r8 i8_0 g8_1 g8_2 g8_3 k8) (cwV 1 hts gX5_fault_X4_readInto rfl rfl rfl (by decide +kernel) ⟨Nat.le_of_ble_eq_true rfl, Nat.le_of_ble_eq_true rfl⟩) (dk_premV hK hPc hDc (ci := 4) (q0 := 0) rfl rfl) rfl rfl hl.1 rfl (lv_room (Nat.le_of_ble_eq_true rfl)) dX5_fault_8 ⟨Nat.zero_le _, Nat.zero_le _⟩) hS (fun q _ h => hFc q h) hFc (fun xr8 u t H1 locs ht hvm hw hB hz1 hk1 hS => ?_)
  obtain ⟨hP1, hD1⟩ := hB
  rw [ht] at hP1
  rw [hw]
  obtain ⟨hP, hD⟩ := va_join (wr := ([0, 1] : List Nat).filterMap (fun i => (wDp cy hQ aQ sdQ Q ++ wTx cy (aQ 0) aX X ++ wNt cy (aQ 2) aN N)[i]?)) (w1 := wTx cy (aQ 0) aX X ++ wNt cy (aQ 2) aN (i8_0, dk_upA (dk_upA (dk_upA N.2 5 g8_1) 6 g8_2) 8 g8_3)) hP hD [2, 3, 4, 5, 6, 7] [0, 1] rfl rfl (by decide) (by decide) hk1 hFc hP1 hD1
  generalize H1 = H at hP hS ⊢
  have hP : va_P D vwCl (wDp cy hQ aQ sdQ Q ++ wTx cy (aQ 0) aX X ++ wNt cy (aQ 2) aN (i8_0, dk_upA (dk_upA (dk_upA N.2 5 g8_1) 6 g8_2) 8 g8_3)) H := hP.sub [0, 1, 2, 3, 4, 5, 6, 7] rfl
  have hD : va_D A (wDp cy hQ aQ sdQ Q ++ wTx cy (aQ 0) aX X ++ wNt cy (aQ 2) aN (i8_0, dk_upA (dk_upA (dk_upA N.2 5 g8_1) 6 g8_2) 8 g8_3)) := hD.sub [0, 1, 2, 3, 4, 5, 6, 7] (by decide) rfl
  have e := Option.some.inj hf
  simp only [Prod.mk.injEq] at e
  obtain ⟨e0, e1, e2, e3, e4⟩ := e
  subst e1
  subst e2
  subst e3
  subst e4
  exact W.iret (v := r8) hx hb hr (fun t ht hW => ⟨⟨r8, (), rfl, e0, by rw [ht]; exact hP, hD⟩, hS.F ht⟩) hS.2.2 dX5_fault_11
theorem iX5_net_X1 : ∀ w ∈ wsX10, w ∈ wsX5_net := fun _ h => List.mem_cons_of_mem _ (List.mem_append_left _ (List.mem_append_left _ (List.mem_append_left _ (List.mem_append_right _ h))))
theorem iX5_net_X5 : ∀ w ∈ wsX50, w ∈ wsX5_net := fun _ h => List.mem_cons_of_mem _ (List.mem_append_left _ (List.mem_append_left _ (List.mem_append_left _ (List.mem_append_left _ (List.mem_append_right _ h)))))
set_option maxHeartbeats 4000000 in
set_option maxRecDepth 100000 in
theorem kX5_net (l : Launch) (D : va_G) (cy : Nat → ClassId) (hQ : Nat) (aQ : Nat → Nat) (sdQ : Int64) (aX : Nat → Nat) (aN : Nat → Nat) (aG : Nat → Nat) (aT : Nat → Nat) (bC : Nat) (sz : Nat) (Q : dk_O) (X : dk_O) (N : dk_O) (G : dk_O) (T : dk_O) (C : dk_O)  (r : Int32) (oQ_7 : (Nat → Int32)) (oN_I : (Nat → Int32)) (oN_5 : (Nat → Int32)) (oN_6 : (Nat → Int32)) (oN_8 : (Nat → Int32)) (oG_I : (Nat → Int32)) (oG_5 : (Nat → Int32)) (oG_6 : (Nat → Int32)) (oT_I : (Nat → Int32)) (oT_1 : (Nat → Int32)) (oT_2 : (Nat → Int32)) (oC_I : (Nat → Int32)) (hf : fX5_net Q X N G T C = some (r, oQ_7, oN_I, oN_5, oN_6, oN_8, oG_I, oG_5, oG_6, oT_I, oT_1, oT_2, oC_I)) : dk_MuI l yX5_net wsX5_net ({ frames := 5, cells := 0, slots := 0, locals := 111 }) D cy [.ref hQ] (wDp cy hQ aQ sdQ Q ++ wTx cy (aQ 0) aX X ++ wNt cy (aQ 2) aN N ++ wNt cy (aQ 1) aG G ++ wSt cy (aQ 3) aT (aQ 1) T ++ wAo (aQ 5) bC C) (wDp cy hQ aQ sdQ (Q.1, dk_upA Q.2 7 oQ_7) ++ wTx cy (aQ 0) aX X ++ wNt cy (aQ 2) aN (oN_I, dk_upA (dk_upA (dk_upA N.2 5 oN_5) 6 oN_6) 8 oN_8) ++ wNt cy (aQ 1) aG (oG_I, dk_upA (dk_upA G.2 5 oG_5) 6 oG_6) ++ wSt cy (aQ 3) aT (aQ 1) (oT_I, dk_upA (dk_upA T.2 1 oT_1) 2 oT_2) ++ wAo (aQ 5) bC (oC_I, C.2)) sz r := by
  refine Met.ofW (cc := cX5_net) (maxL := 2) (ret := (some .int)) (by decide) rfl ?_
  intro p e s m args below meth c s₁ B hml hv
  obtain ⟨rfl, hsz, hP, hK, hD0⟩ := hv
  have hx := B.exec
  have hb := B.bytes
  have hr := B.returns
  have hts := atoms_spec (ws := wsX5_net) B.pre
  have hown : s.vm.findClass RX5 = some m.cls := findClass_of_methodNamed B.named
  have hlocks := B.notSynchronized
  subst hsz
  have hD := hD0.self (sz := s.heap.size)
  generalize hAe : va_A (wDp cy hQ aQ sdQ Q ++ wTx cy (aQ 0) aX X ++ wNt cy (aQ 2) aN N ++ wNt cy (aQ 1) aG G ++ wSt cy (aQ 3) aT (aQ 1) T ++ wAo (aQ 5) bC C) s.heap.size = A at hD ⊢
  have hA : ∀ q : Nat, s.heap.size ≤ q → A q := fun q h => by rw [← hAe]; exact Or.inr h
  have hS : va_S A s.heap s.heap [] := va_S.rf
  have hl := lv_entry ([.ref hQ]) (n := 2) (Nat.le_of_ble_eq_true rfl)
  rw [lg_entry_eq]
  generalize (lg_sl ([.ref hQ]) ++ List.replicate (2 - (lg_sl ([.ref hQ])).length) Slot.unset).toArray = ls at hl ⊢
  have hl : lv_has ls 2 [(0, .ref hQ)] := hl
  have L60 : ∀ (fu60 : Nat) (x1 : Int32) (Q_7 : (Nat → Int32)) (N_I : (Nat → Int32)) (N_5 : (Nat → Int32)) (N_6 : (Nat → Int32)) (N_8 : (Nat → Int32)) (G_I : (Nat → Int32)) (G_5 : (Nat → Int32)) (G_6 : (Nat → Int32)) (T_I : (Nat → Int32)) (T_1 : (Nat → Int32)) (T_2 : (Nat → Int32)) (C_I : (Nat → Int32)) (H : Heap) (locs : List Loc) (ls : Array Slot), va_P D vwCl (wDp cy hQ aQ sdQ (Q.1, dk_upA Q.2 7 Q_7) ++ wTx cy (aQ 0) aX X ++ wNt cy (aQ 2) aN (N_I, dk_upA (dk_upA (dk_upA N.2 5 N_5) 6 N_6) 8 N_8) ++ wNt cy (aQ 1) aG (G_I, dk_upA (dk_upA G.2 5 G_5) 6 G_6) ++ wSt cy (aQ 3) aT (aQ 1) (T_I, dk_upA (dk_upA T.2 1 T_1) 2 T_2) ++ wAo (aQ 5) bC (C_I, C.2)) H → va_D A (wDp cy hQ aQ sdQ (Q.1, dk_upA Q.2 7 Q_7) ++ wTx cy (aQ 0) aX X ++ wNt cy (aQ 2) aN (N_I, dk_upA (dk_upA (dk_upA N.2 5 N_5) 6 N_6) 8 N_8) ++ wNt cy (aQ 1) aG (G_I, dk_upA (dk_upA G.2 5 G_5) 6 G_6) ++ wSt cy (aQ 3) aT (aQ 1) (T_I, dk_upA (dk_upA T.2 1 T_1) 2 T_2) ++ wAo (aQ 5) bC (C_I, C.2)) → va_S A s.heap H locs → lv_has ls 2 [(0, .ref hQ), (1, .int x1)] → fX5_net_L60 Q X N G T C fu60 x1 Q_7 N_I N_5 N_6 N_8 G_I G_5 G_6 T_I T_1 T_2 C_I = some (r, oQ_7, oN_I, oN_5, oN_6, oN_8, oG_I, oG_5, oG_6, oT_I, oT_1, oT_2, oC_I) → W p l e (headSpec wsX5_net ({ frames := 5, cells := 0, slots := 0, locals := 111 })).room s m ([.ref hQ]).toArray below meth c H locs 0 0 (MQ below (va_Qi (fun (x : Int32) (_ : Unit) => x = r) (dk_B D (wDp cy hQ aQ sdQ (Q.1, dk_upA Q.2 7 oQ_7) ++ wTx cy (aQ 0) aX X ++ wNt cy (aQ 2) aN (oN_I, dk_upA (dk_upA (dk_upA N.2 5 oN_5) 6 oN_6) 8 oN_8) ++ wNt cy (aQ 1) aG (oG_I, dk_upA (dk_upA G.2 5 oG_5) 6 oG_6) ++ wSt cy (aQ 3) aT (aQ 1) (oT_I, dk_upA (dk_upA T.2 1 oT_1) 2 oT_2) ++ wAo (aQ 5) bC (oC_I, C.2)) A) A) ([.ref hQ]).toArray s 0 0 A) (F0 m 60 ls []) := by
    intro fu60
    induction fu60 with
    | zero =>
      intro x1 Q_7 N_I N_5 N_6 N_8 G_I G_5 G_6 T_I T_1 T_2 C_I H locs ls hP hD hS hl hf
      rw [fX5_net_L60] at hf
      cases hf
    | succ fu60 ih60 =>
      intro x1 Q_7 N_I N_5 N_6 N_8 G_I G_5 G_6 T_I T_1 T_2 C_I H locs ls hP hD hS hl hf
      rw [fX5_net_L60] at hf
      refine lv_iload_n hx hb dX5_net_60 rfl (lv_at hl 1 rfl) ?_
      refine lv_iconst (v := 2) hx hb dX5_net_61 (by decide) ?_
      refine dk_cge (tgt := 78) hx hb dX5_net_62 (by decide) hf (fun hf => ?_) (fun hf => ?_)
      · refine lv_aload_n hx hb dX5_net_78 rfl (lv_at hl 0 rfl) ?_
        refine va_get (D := D) (ci := 5) (v := .ref (aQ 1)) (C := RX5) (T := TX5) (N := 10) hx hb hts iX5_net_X5 hown hK.1 hP 0 rfl rfl 1 (by decide) (hts (.fieldLink RX5 19 "DarkPlace" "ground" "LDarkPlace$Net;") (List.mem_of_getElem? (i := 3) rfl)) (fun _ h9 => h9) rfl dX5_net_79 ?_
        refine va_getN (D := D) (ci := 1) (v := .int (G_I 4)) (C := RX1) (T := TX1) (N := 9) hx hb hts iX5_net_X1 hown hK.1 hP 8 rfl rfl 4 (by decide) (va_Nw.use rfl (hK.2 (.fieldLinkNest "DarkPlace" 96 "DarkPlace$Net" "edges" "I" "DarkPlace") (List.mem_of_getElem? (i := 9) rfl))) (fun _ h9 => h9) rfl dX5_net_82 ?_
        have e := Option.some.inj hf
        simp only [Prod.mk.injEq] at e
        obtain ⟨e0, e1, e2, e3, e4, e5, e6, e7, e8, e9, e10, e11, e12⟩ := e
        subst e1
        subst e2
        subst e3
        subst e4
        subst e5
        subst e6
        subst e7
        subst e8
        subst e9
        subst e10
        subst e11
        subst e12
        exact W.iret (v := G_I 4) hx hb hr (fun t ht hW => ⟨⟨G_I 4, (), rfl, e0, by rw [ht]; exact hP, hD⟩, hS.F ht⟩) hS.2.2 dX5_net_85
      · refine lv_aload_n hx hb dX5_net_65 rfl (lv_at hl 0 rfl) ?_
        refine va_get (D := D) (ci := 5) (v := .ref (aQ 7)) (C := RX5) (T := TX5) (N := 10) hx hb hts iX5_net_X5 hown hK.1 hP 0 rfl rfl 7 (by decide) (hts (.fieldLink RX5 49 "DarkPlace" "filled" "[Z") (List.mem_of_getElem? (i := 6) rfl)) (fun _ h9 => h9) rfl dX5_net_66 ?_
        refine lv_iload_n hx hb dX5_net_69 rfl (lv_at hl 1 rfl) ?_
        refine lv_iconst (v := 0) hx hb dX5_net_70 (by decide) ?_
        refine dk_zast hx hb hK.1 hP hD hS 1 1 rfl rfl (by decide) hf dX5_net_71 (fun f71 H locs hP hD hS hf => ?_)
        have hP : va_P D vwCl (wDp cy hQ aQ sdQ (Q.1, dk_upA Q.2 7 f71) ++ wTx cy (aQ 0) aX X ++ wNt cy (aQ 2) aN (N_I, dk_upA (dk_upA (dk_upA N.2 5 N_5) 6 N_6) 8 N_8) ++ wNt cy (aQ 1) aG (G_I, dk_upA (dk_upA G.2 5 G_5) 6 G_6) ++ wSt cy (aQ 3) aT (aQ 1) (T_I, dk_upA (dk_upA T.2 1 T_1) 2 T_2) ++ wAo (aQ 5) bC (C_I, C.2)) H := hP
        have hD : va_D A (wDp cy hQ aQ sdQ (Q.1, dk_upA Q.2 7 f71) ++ wTx cy (aQ 0) aX X ++ wNt cy (aQ 2) aN (N_I, dk_upA (dk_upA (dk_upA N.2 5 N_5) 6 N_6) 8 N_8) ++ wNt cy (aQ 1) aG (G_I, dk_upA (dk_upA G.2 5 G_5) 6 G_6) ++ wSt cy (aQ 3) aT (aQ 1) (T_I, dk_upA (dk_upA T.2 1 T_1) 2 T_2) ++ wAo (aQ 5) bC (C_I, C.2)) := hD
        refine lv_iinc (v := x1 + 1) (lv' := [(1, .int (x1 + 1)), (0, .ref hQ)]) hx hb dX5_net_72 hl (k := 1) rfl rfl (by decide) rfl (fun ls hl => ?_)
        refine lv_goto (tgt := 60) hx hb dX5_net_75 (by decide) ?_
        exact ih60 (x1 + 1) f71 N_I N_5 N_6 N_8 G_I G_5 G_6 T_I T_1 T_2 C_I _ _ _ hP hD hS (lv_sub hl [1, 0] rfl) hf
  unfold fX5_net at hf
  refine lv_aload_n hx hb dX5_net_0 rfl (lv_at hl 0 rfl) ?_
  refine va_get (D := D) (ci := 5) (v := .ref (aQ 0)) (C := RX5) (T := TX5) (N := 10) hx hb hts iX5_net_X5 hown hK.1 hP 0 rfl rfl 0 (by decide) (hts (.fieldLink RX5 12 "DarkPlace" "text" "LDarkPlace$Text;") (List.mem_of_getElem? (i := 1) rfl)) (fun _ h9 => h9) rfl dX5_net_1 ?_
  refine lv_aload_n hx hb dX5_net_4 rfl (lv_at hl 0 rfl) ?_
  refine va_get (D := D) (ci := 5) (v := .ref (aQ 2)) (C := RX5) (T := TX5) (N := 10) hx hb hts iX5_net_X5 hown hK.1 hP 0 rfl rfl 2 (by decide) (hts (.fieldLink RX5 23 "DarkPlace" "draft" "LDarkPlace$Net;") (List.mem_of_getElem? (i := 2) rfl)) (fun _ h9 => h9) rfl dX5_net_5 ?_
  obtain ⟨⟨r8, i8_0, g8_1, g8_2, g8_3⟩, k8, hf⟩ := dk_bind hf
  dsimp only at hf
  have hPc := hP.sub (ws' := wTx cy (aQ 0) aX X ++ wNt cy (aQ 2) aN N) [2, 3, 4, 5, 6, 7] rfl
  have hDc := hD.sub (ws' := wTx cy (aQ 0) aX X ++ wNt cy (aQ 2) aN N) [2, 3, 4, 5, 6, 7] (by decide) rfl
  have hFc := va_free (wc := wTx cy (aQ 0) aX X ++ wNt cy (aQ 2) aN N) hD hS hA [2, 3, 4, 5, 6, 7] rfl
  refine va_calli (va_runV (As := [.ref (aQ 2)]) (rest := []) ⟨hx, hb, hml, hown, hts⟩ (kX4_readInto l D cy (aQ 0) aX (aQ 2) aN s.heap.size X N r8 i8_0 g8_1 g8_2 g8_3 k8) (cwV 1 hts gX5_net_X4_readInto rfl rfl rfl (by decide +kernel) ⟨Nat.le_of_ble_eq_true rfl, Nat.le_of_ble_eq_true rfl⟩) (dk_premV hK hPc hDc (ci := 4) (q0 := 0) rfl rfl) rfl rfl hl.1 rfl (lv_room (Nat.le_of_ble_eq_true rfl)) dX5_net_8 ⟨Nat.zero_le _, Nat.zero_le _⟩) hS (fun q _ h => hFc q h) hFc (fun xr8 u t H1 locs ht hvm hw hB hz1 hk1 hS => ?_)
  obtain ⟨hP1, hD1⟩ := hB
  rw [ht] at hP1
  rw [hw]
  obtain ⟨hP, hD⟩ := va_join (wr := ([0, 1, 8, 9, 10, 11, 12, 13, 14, 15] : List Nat).filterMap (fun i => (wDp cy hQ aQ sdQ Q ++ wTx cy (aQ 0) aX X ++ wNt cy (aQ 2) aN N ++ wNt cy (aQ 1) aG G ++ wSt cy (aQ 3) aT (aQ 1) T ++ wAo (aQ 5) bC C)[i]?)) (w1 := wTx cy (aQ 0) aX X ++ wNt cy (aQ 2) aN (i8_0, dk_upA (dk_upA (dk_upA N.2 5 g8_1) 6 g8_2) 8 g8_3)) hP hD [2, 3, 4, 5, 6, 7] [0, 1, 8, 9, 10, 11, 12, 13, 14, 15] rfl rfl (by decide) (by decide) hk1 hFc hP1 hD1
  generalize H1 = H at hP hS ⊢
  have hP : va_P D vwCl (wDp cy hQ aQ sdQ Q ++ wTx cy (aQ 0) aX X ++ wNt cy (aQ 2) aN (i8_0, dk_upA (dk_upA (dk_upA N.2 5 g8_1) 6 g8_2) 8 g8_3) ++ wNt cy (aQ 1) aG G ++ wSt cy (aQ 3) aT (aQ 1) T ++ wAo (aQ 5) bC C) H := hP.sub [0, 1, 10, 11, 12, 13, 14, 15, 2, 3, 4, 5, 6, 7, 8, 9] rfl
  have hD : va_D A (wDp cy hQ aQ sdQ Q ++ wTx cy (aQ 0) aX X ++ wNt cy (aQ 2) aN (i8_0, dk_upA (dk_upA (dk_upA N.2 5 g8_1) 6 g8_2) 8 g8_3) ++ wNt cy (aQ 1) aG G ++ wSt cy (aQ 3) aT (aQ 1) T ++ wAo (aQ 5) bC C) := hD.sub [0, 1, 10, 11, 12, 13, 14, 15, 2, 3, 4, 5, 6, 7, 8, 9] (by decide) rfl
  refine lv_bipush (v := (-9)) hx hb dX5_net_11 (by decide) ?_
  refine dk_ceq (tgt := 19) hx hb dX5_net_13 (by decide) hf (fun hf => ?_) (fun hf => ?_)
  · refine lv_aload_n hx hb dX5_net_19 rfl (lv_at hl 0 rfl) ?_
    refine va_get (D := D) (ci := 5) (v := .ref (aQ 1)) (C := RX5) (T := TX5) (N := 10) hx hb hts iX5_net_X5 hown hK.1 hP 0 rfl rfl 1 (by decide) (hts (.fieldLink RX5 19 "DarkPlace" "ground" "LDarkPlace$Net;") (List.mem_of_getElem? (i := 3) rfl)) (fun _ h9 => h9) rfl dX5_net_20 ?_
    refine lv_aload_n hx hb dX5_net_23 rfl (lv_at hl 0 rfl) ?_
    refine va_get (D := D) (ci := 5) (v := .ref (aQ 2)) (C := RX5) (T := TX5) (N := 10) hx hb hts iX5_net_X5 hown hK.1 hP 0 rfl rfl 2 (by decide) (hts (.fieldLink RX5 23 "DarkPlace" "draft" "LDarkPlace$Net;") (List.mem_of_getElem? (i := 2) rfl)) (fun _ h9 => h9) rfl dX5_net_24 ?_
    obtain ⟨⟨i27_0, g27_1, g27_2⟩, k27, hf⟩ := dk_bind hf
    dsimp only at hf
    have hPc := hP.sub (ws' := wNt cy (aQ 1) aG G ++ wNt cy (aQ 2) aN (i8_0, dk_upA (dk_upA (dk_upA N.2 5 g8_1) 6 g8_2) 8 g8_3)) [8, 9, 10, 11, 4, 5, 6, 7] rfl
    have hDc := hD.sub (ws' := wNt cy (aQ 1) aG G ++ wNt cy (aQ 2) aN (i8_0, dk_upA (dk_upA (dk_upA N.2 5 g8_1) 6 g8_2) 8 g8_3)) [8, 9, 10, 11, 4, 5, 6, 7] (by decide) rfl
    have hFc := va_free (wc := wNt cy (aQ 1) aG G ++ wNt cy (aQ 2) aN (i8_0, dk_upA (dk_upA (dk_upA N.2 5 g8_1) 6 g8_2) 8 g8_3)) hD hS hA [8, 9, 10, 11, 4, 5, 6, 7] rfl
    refine va_callv (va_runV (As := [.ref (aQ 2)]) (rest := []) ⟨hx, hb, hml, hown, hts⟩ (kX1_become l D cy (aQ 1) aG (aQ 2) aN H.size G (i8_0, dk_upA (dk_upA (dk_upA N.2 5 g8_1) 6 g8_2) 8 g8_3) i27_0 g27_1 g27_2 k27) (cwV 1 hts gX5_net_X1_become rfl rfl rfl (by decide +kernel) ⟨Nat.le_of_ble_eq_true rfl, Nat.le_of_ble_eq_true rfl⟩) (dk_premV hK hPc hDc (ci := 1) (q0 := 0) rfl rfl) rfl rfl hl.1 rfl (lv_room (Nat.le_of_ble_eq_true rfl)) dX5_net_27 ⟨Nat.zero_le _, Nat.zero_le _⟩) hS (fun q _ h => hFc q h) hFc (fun u t H1 locs ht hvm hw hB hz1 hk1 hS => ?_)
    obtain ⟨hP1, hD1⟩ := hB
    rw [ht] at hP1
    obtain ⟨hP, hD⟩ := va_join (wr := ([0, 1, 2, 3, 12, 13, 14, 15] : List Nat).filterMap (fun i => (wDp cy hQ aQ sdQ Q ++ wTx cy (aQ 0) aX X ++ wNt cy (aQ 2) aN (i8_0, dk_upA (dk_upA (dk_upA N.2 5 g8_1) 6 g8_2) 8 g8_3) ++ wNt cy (aQ 1) aG G ++ wSt cy (aQ 3) aT (aQ 1) T ++ wAo (aQ 5) bC C)[i]?)) (w1 := wNt cy (aQ 1) aG (i27_0, dk_upA (dk_upA G.2 5 g27_1) 6 g27_2) ++ wNt cy (aQ 2) aN (i8_0, dk_upA (dk_upA (dk_upA N.2 5 g8_1) 6 g8_2) 8 g8_3)) hP hD [8, 9, 10, 11, 4, 5, 6, 7] [0, 1, 2, 3, 12, 13, 14, 15] rfl rfl (by decide) (by decide) hk1 hFc hP1 hD1
    generalize H1 = H at hP hS ⊢
    have hP : va_P D vwCl (wDp cy hQ aQ sdQ Q ++ wTx cy (aQ 0) aX X ++ wNt cy (aQ 2) aN (i8_0, dk_upA (dk_upA (dk_upA N.2 5 g8_1) 6 g8_2) 8 g8_3) ++ wNt cy (aQ 1) aG (i27_0, dk_upA (dk_upA G.2 5 g27_1) 6 g27_2) ++ wSt cy (aQ 3) aT (aQ 1) T ++ wAo (aQ 5) bC C) H := hP.sub [0, 1, 2, 3, 12, 13, 14, 15, 8, 9, 10, 11, 4, 5, 6, 7] rfl
    have hD : va_D A (wDp cy hQ aQ sdQ Q ++ wTx cy (aQ 0) aX X ++ wNt cy (aQ 2) aN (i8_0, dk_upA (dk_upA (dk_upA N.2 5 g8_1) 6 g8_2) 8 g8_3) ++ wNt cy (aQ 1) aG (i27_0, dk_upA (dk_upA G.2 5 g27_1) 6 g27_2) ++ wSt cy (aQ 3) aT (aQ 1) T ++ wAo (aQ 5) bC C) := hD.sub [0, 1, 2, 3, 12, 13, 14, 15, 8, 9, 10, 11, 4, 5, 6, 7] (by decide) rfl
    refine lv_aload_n hx hb dX5_net_30 rfl (lv_at hl 0 rfl) ?_
    refine va_get (D := D) (ci := 5) (v := .ref (aQ 3)) (C := RX5) (T := TX5) (N := 10) hx hb hts iX5_net_X5 hown hK.1 hP 0 rfl rfl 3 (by decide) (hts (.fieldLink RX5 31 "DarkPlace" "now" "LDarkPlace$Stand;") (List.mem_of_getElem? (i := 4) rfl)) (fun _ h9 => h9) rfl dX5_net_31 ?_
    refine lv_aload_n hx hb dX5_net_34 rfl (lv_at hl 0 rfl) ?_
    refine va_get (D := D) (ci := 5) (v := .ref (aQ 1)) (C := RX5) (T := TX5) (N := 10) hx hb hts iX5_net_X5 hown hK.1 hP 0 rfl rfl 1 (by decide) (hts (.fieldLink RX5 19 "DarkPlace" "ground" "LDarkPlace$Net;") (List.mem_of_getElem? (i := 3) rfl)) (fun _ h9 => h9) rfl dX5_net_35 ?_
    refine va_getN (D := D) (ci := 1) (v := .int (i27_0 3)) (C := RX1) (T := TX1) (N := 9) hx hb hts iX5_net_X1 hown hK.1 hP 8 rfl rfl 3 (by decide) (va_Nw.use rfl (hK.2 (.fieldLinkNest "DarkPlace" 83 "DarkPlace$Net" "searchers" "I" "DarkPlace") (List.mem_of_getElem? (i := 8) rfl))) (fun _ h9 => h9) rfl dX5_net_38 ?_
    refine lv_aload_n hx hb dX5_net_41 rfl (lv_at hl 0 rfl) ?_
    refine va_get (D := D) (ci := 5) (v := .ref (aQ 1)) (C := RX5) (T := TX5) (N := 10) hx hb hts iX5_net_X5 hown hK.1 hP 0 rfl rfl 1 (by decide) (hts (.fieldLink RX5 19 "DarkPlace" "ground" "LDarkPlace$Net;") (List.mem_of_getElem? (i := 3) rfl)) (fun _ h9 => h9) rfl dX5_net_42 ?_
    refine va_getN (D := D) (ci := 1) (v := .int (i27_0 2)) (C := RX1) (T := TX1) (N := 9) hx hb hts iX5_net_X1 hown hK.1 hP 8 rfl rfl 2 (by decide) (va_Nw.use rfl (hK.2 (.fieldLinkNest "DarkPlace" 87 "DarkPlace$Net" "hole" "I" "DarkPlace") (List.mem_of_getElem? (i := 6) rfl))) (fun _ h9 => h9) rfl dX5_net_45 ?_
    obtain ⟨⟨i48_0, g48_1, g48_2⟩, k48, hf⟩ := dk_bind hf
    dsimp only at hf
    have hPc := hP.sub (ws' := wSt cy (aQ 3) aT (aQ 1) T ++ wNt cy (aQ 1) aG (i27_0, dk_upA (dk_upA G.2 5 g27_1) 6 g27_2)) [12, 13, 14, 8, 9, 10, 11] rfl
    have hDc := hD.sub (ws' := wSt cy (aQ 3) aT (aQ 1) T ++ wNt cy (aQ 1) aG (i27_0, dk_upA (dk_upA G.2 5 g27_1) 6 g27_2)) [12, 13, 14, 8, 9, 10, 11] (by decide) rfl
    have hFc := va_free (wc := wSt cy (aQ 3) aT (aQ 1) T ++ wNt cy (aQ 1) aG (i27_0, dk_upA (dk_upA G.2 5 g27_1) 6 g27_2)) hD hS hA [12, 13, 14, 8, 9, 10, 11] rfl
    refine va_callv (va_runV (As := [.int (i27_0 3), .int (i27_0 2)]) (rest := []) ⟨hx, hb, hml, hown, hts⟩ (kX3_begin l D cy (aQ 3) aT (aQ 1) aG H.size T (i27_0, dk_upA (dk_upA G.2 5 g27_1) 6 g27_2) (i27_0 3) (i27_0 2) i48_0 g48_1 g48_2 k48) (cwV 2 hts gX5_net_X3_begin rfl rfl rfl (by decide +kernel) ⟨Nat.le_of_ble_eq_true rfl, Nat.le_of_ble_eq_true rfl⟩) (dk_premV hK hPc hDc (ci := 3) (q0 := 0) rfl rfl) rfl rfl hl.1 rfl (lv_room (Nat.le_of_ble_eq_true rfl)) dX5_net_48 ⟨Nat.zero_le _, Nat.zero_le _⟩) hS (fun q _ h => hFc q h) hFc (fun u t H1 locs ht hvm hw hB hz1 hk1 hS => ?_)
    obtain ⟨hP1, hD1⟩ := hB
    rw [ht] at hP1
    obtain ⟨hP, hD⟩ := va_join (wr := ([0, 1, 2, 3, 4, 5, 6, 7, 15] : List Nat).filterMap (fun i => (wDp cy hQ aQ sdQ Q ++ wTx cy (aQ 0) aX X ++ wNt cy (aQ 2) aN (i8_0, dk_upA (dk_upA (dk_upA N.2 5 g8_1) 6 g8_2) 8 g8_3) ++ wNt cy (aQ 1) aG (i27_0, dk_upA (dk_upA G.2 5 g27_1) 6 g27_2) ++ wSt cy (aQ 3) aT (aQ 1) T ++ wAo (aQ 5) bC C)[i]?)) (w1 := wSt cy (aQ 3) aT (aQ 1) (i48_0, dk_upA (dk_upA T.2 1 g48_1) 2 g48_2) ++ wNt cy (aQ 1) aG (i27_0, dk_upA (dk_upA G.2 5 g27_1) 6 g27_2)) hP hD [12, 13, 14, 8, 9, 10, 11] [0, 1, 2, 3, 4, 5, 6, 7, 15] rfl rfl (by decide) (by decide) hk1 hFc hP1 hD1
    generalize H1 = H at hP hS ⊢
    have hP : va_P D vwCl (wDp cy hQ aQ sdQ Q ++ wTx cy (aQ 0) aX X ++ wNt cy (aQ 2) aN (i8_0, dk_upA (dk_upA (dk_upA N.2 5 g8_1) 6 g8_2) 8 g8_3) ++ wNt cy (aQ 1) aG (i27_0, dk_upA (dk_upA G.2 5 g27_1) 6 g27_2) ++ wSt cy (aQ 3) aT (aQ 1) (i48_0, dk_upA (dk_upA T.2 1 g48_1) 2 g48_2) ++ wAo (aQ 5) bC C) H := hP.sub [0, 1, 2, 3, 4, 5, 6, 7, 12, 13, 14, 15, 9, 10, 11, 8] rfl
    have hD : va_D A (wDp cy hQ aQ sdQ Q ++ wTx cy (aQ 0) aX X ++ wNt cy (aQ 2) aN (i8_0, dk_upA (dk_upA (dk_upA N.2 5 g8_1) 6 g8_2) 8 g8_3) ++ wNt cy (aQ 1) aG (i27_0, dk_upA (dk_upA G.2 5 g27_1) 6 g27_2) ++ wSt cy (aQ 3) aT (aQ 1) (i48_0, dk_upA (dk_upA T.2 1 g48_1) 2 g48_2) ++ wAo (aQ 5) bC C) := hD.sub [0, 1, 2, 3, 4, 5, 6, 7, 12, 13, 14, 15, 9, 10, 11, 8] (by decide) rfl
    refine lv_aload_n hx hb dX5_net_51 rfl (lv_at hl 0 rfl) ?_
    refine va_get (D := D) (ci := 5) (v := .ref (aQ 5)) (C := RX5) (T := TX5) (N := 10) hx hb hts iX5_net_X5 hown hK.1 hP 0 rfl rfl 5 (by decide) (hts (.fieldLink RX5 41 "DarkPlace" "acts" "LDarkPlace$Acts;") (List.mem_of_getElem? (i := 5) rfl)) (fun _ h9 => h9) rfl dX5_net_52 ?_
    obtain ⟨i55_0, k55, hf⟩ := dk_bind hf
    have hPc := hP.sub (ws' := wAo (aQ 5) bC C) [15] rfl
    have hDc := hD.sub (ws' := wAo (aQ 5) bC C) [15] (by decide) rfl
    have hFc := va_free (wc := wAo (aQ 5) bC C) hD hS hA [15] rfl
    refine va_callv (va_runV (As := []) (rest := []) ⟨hx, hb, hml, hown, hts⟩ (kX0_clear l D cy (aQ 5) bC H.size C i55_0 k55) (cwV 0 hts gX5_net_X0_clear rfl rfl rfl (by decide +kernel) ⟨Nat.le_of_ble_eq_true rfl, Nat.le_of_ble_eq_true rfl⟩) (dk_premV hK hPc hDc (ci := 0) (q0 := 0) rfl rfl) rfl rfl hl.1 rfl (lv_room (Nat.le_of_ble_eq_true rfl)) dX5_net_55 ⟨Nat.zero_le _, Nat.zero_le _⟩) hS (fun q _ h => hFc q h) hFc (fun u t H1 locs ht hvm hw hB hz1 hk1 hS => ?_)
    obtain ⟨hP1, hD1⟩ := hB
    rw [ht] at hP1
    obtain ⟨hP, hD⟩ := va_join (wr := ([0, 1, 2, 3, 4, 5, 6, 7, 8, 9, 10, 11, 12, 13, 14] : List Nat).filterMap (fun i => (wDp cy hQ aQ sdQ Q ++ wTx cy (aQ 0) aX X ++ wNt cy (aQ 2) aN (i8_0, dk_upA (dk_upA (dk_upA N.2 5 g8_1) 6 g8_2) 8 g8_3) ++ wNt cy (aQ 1) aG (i27_0, dk_upA (dk_upA G.2 5 g27_1) 6 g27_2) ++ wSt cy (aQ 3) aT (aQ 1) (i48_0, dk_upA (dk_upA T.2 1 g48_1) 2 g48_2) ++ wAo (aQ 5) bC C)[i]?)) (w1 := wAo (aQ 5) bC (i55_0, C.2)) hP hD [15] [0, 1, 2, 3, 4, 5, 6, 7, 8, 9, 10, 11, 12, 13, 14] rfl rfl (by decide) (by decide) hk1 hFc hP1 hD1
    generalize H1 = H at hP hS ⊢
    have hP : va_P D vwCl (wDp cy hQ aQ sdQ Q ++ wTx cy (aQ 0) aX X ++ wNt cy (aQ 2) aN (i8_0, dk_upA (dk_upA (dk_upA N.2 5 g8_1) 6 g8_2) 8 g8_3) ++ wNt cy (aQ 1) aG (i27_0, dk_upA (dk_upA G.2 5 g27_1) 6 g27_2) ++ wSt cy (aQ 3) aT (aQ 1) (i48_0, dk_upA (dk_upA T.2 1 g48_1) 2 g48_2) ++ wAo (aQ 5) bC (i55_0, C.2)) H := hP.sub [0, 1, 2, 3, 4, 5, 6, 7, 8, 9, 10, 11, 12, 13, 14, 15] rfl
    have hD : va_D A (wDp cy hQ aQ sdQ Q ++ wTx cy (aQ 0) aX X ++ wNt cy (aQ 2) aN (i8_0, dk_upA (dk_upA (dk_upA N.2 5 g8_1) 6 g8_2) 8 g8_3) ++ wNt cy (aQ 1) aG (i27_0, dk_upA (dk_upA G.2 5 g27_1) 6 g27_2) ++ wSt cy (aQ 3) aT (aQ 1) (i48_0, dk_upA (dk_upA T.2 1 g48_1) 2 g48_2) ++ wAo (aQ 5) bC (i55_0, C.2)) := hD.sub [0, 1, 2, 3, 4, 5, 6, 7, 8, 9, 10, 11, 12, 13, 14, 15] (by decide) rfl
    refine lv_iconst (v := 0) hx hb dX5_net_58 (by decide) ?_
    refine lv_istore_n (lv' := [(1, .int 0), (0, .ref hQ)]) hx hb dX5_net_59 rfl hl (by decide) rfl (fun ls hl => ?_)
    exact L60 1000 0 (Q.2 7) i8_0 g8_1 g8_2 g8_3 i27_0 g27_1 g27_2 i48_0 g48_1 g48_2 i55_0 _ _ _ hP hD hS (lv_sub hl [1, 0] rfl) hf
  · refine lv_bipush (v := (-3)) hx hb dX5_net_16 (by decide) ?_
    have e := Option.some.inj hf
    simp only [Prod.mk.injEq] at e
    obtain ⟨e0, e1, e2, e3, e4, e5, e6, e7, e8, e9, e10, e11, e12⟩ := e
    subst e1
    subst e2
    subst e3
    subst e4
    subst e5
    subst e6
    subst e7
    subst e8
    subst e9
    subst e10
    subst e11
    subst e12
    exact W.iret (v := (-3)) hx hb hr (fun t ht hW => ⟨⟨(-3), (), rfl, e0, by rw [ht]; exact hP, hD⟩, hS.F ht⟩) hS.2.2 dX5_net_18
theorem iX5_edge_X5 : ∀ w ∈ wsX50, w ∈ wsX5_edge := fun _ h => List.mem_cons_of_mem _ (List.mem_append_left _ (List.mem_append_left _ (List.mem_append_right _ h)))
set_option maxHeartbeats 4000000 in
set_option maxRecDepth 100000 in
theorem kX5_edge (l : Launch) (D : va_G) (cy : Nat → ClassId) (hQ : Nat) (aQ : Nat → Nat) (sdQ : Int64) (aG : Nat → Nat) (aT : Nat → Nat) (Q : dk_O) (G : dk_O) (T : dk_O) (v1 : Int32) (v2 : Int32) (r : Int32) (hf : fX5_edge Q G T v1 v2 = some r) : dk_RdI l yX5_edge wsX5_edge ({ frames := 3, cells := 0, slots := 0, locals := 64 }) D cy [.ref hQ, .int v1, .int v2] (wDp cy hQ aQ sdQ Q ++ wNt cy (aQ 1) aG G ++ wSt cy (aQ 3) aT (aQ 1) T) r := by
  refine Met.ofW (cc := cX5_edge) (maxL := 3) (ret := (some .int)) (by decide) rfl ?_
  intro p e s m args below meth c s₁ B hml hv
  obtain ⟨rfl, hP, hK⟩ := hv
  have hx := B.exec
  have hb := B.bytes
  have hr := B.returns
  have hts := atoms_spec (ws := wsX5_edge) B.pre
  have hown : s.vm.findClass RX5 = some m.cls := findClass_of_methodNamed B.named
  have hlocks := B.notSynchronized
  have hl := lv_entry ([.ref hQ, .int v1, .int v2]) (n := 3) (Nat.le_of_ble_eq_true rfl)
  rw [lg_entry_eq]
  generalize (lg_sl ([.ref hQ, .int v1, .int v2]) ++ List.replicate (3 - (lg_sl ([.ref hQ, .int v1, .int v2])).length) Slot.unset).toArray = ls at hl ⊢
  have hl : lv_has ls 3 [(0, .ref hQ), (1, .int v1), (2, .int v2)] := hl
  unfold fX5_edge at hf
  refine lv_aload_n hx hb dX5_edge_0 rfl (lv_at hl 0 rfl) ?_
  refine va_get (D := D) (ci := 5) (v := .ref (aQ 1)) (C := RX5) (T := TX5) (N := 10) hx hb hts iX5_edge_X5 hown hK.1 hP 0 rfl rfl 1 (by decide) (hts (.fieldLink RX5 19 "DarkPlace" "ground" "LDarkPlace$Net;") (List.mem_of_getElem? (i := 1) rfl)) (fun _ h9 => h9) rfl dX5_edge_1 ?_
  refine lv_iload_n hx hb dX5_edge_4 rfl (lv_at hl 1 rfl) ?_
  obtain ⟨r5, k5, hf⟩ := dk_bind hf
  refine dk_ri (va_runV (As := [.int v1]) (rest := []) ⟨hx, hb, hml, hown, hts⟩ (kX1_isEdge l D cy (aQ 1) aG G v1 r5 k5) (cwV 1 hts gX5_edge_X1_isEdge rfl rfl rfl (by decide +kernel) ⟨Nat.le_of_ble_eq_true rfl, Nat.le_of_ble_eq_true rfl⟩) (dk_preV hK (hP.sub (ws' := wNt cy (aQ 1) aG G) [2, 3, 4, 5] rfl) (ci := 1) (q0 := 0) rfl rfl) rfl rfl hl.1 rfl (lv_room (Nat.le_of_ble_eq_true rfl)) dX5_edge_5 ⟨Nat.zero_le _, Nat.zero_le _⟩) ?_
  refine dk_ine (tgt := 13) hx hb dX5_edge_8 (by decide) hf (fun hf => ?_) (fun hf => ?_)
  · refine lv_iload_n hx hb dX5_edge_13 rfl (lv_at hl 2 rfl) ?_
    by_cases q14_0 : v2 = 0
    · have hf := dk_pos hf q14_0
      refine lv_tableIn (tgt := 44) hx hb dX5_edge_14 (by rw [q14_0]; decide) (by rw [q14_0]; decide) (by rw [q14_0]; rfl) (by decide) ?_
      refine lv_aload_n hx hb dX5_edge_44 rfl (lv_at hl 0 rfl) ?_
      refine va_get (D := D) (ci := 5) (v := .ref (aQ 1)) (C := RX5) (T := TX5) (N := 10) hx hb hts iX5_edge_X5 hown hK.1 hP 0 rfl rfl 1 (by decide) (hts (.fieldLink RX5 19 "DarkPlace" "ground" "LDarkPlace$Net;") (List.mem_of_getElem? (i := 1) rfl)) (fun _ h9 => h9) rfl dX5_edge_45 ?_
      refine lv_iload_n hx hb dX5_edge_48 rfl (lv_at hl 1 rfl) ?_
      obtain ⟨r49, k49, hf⟩ := dk_bind hf
      refine dk_ri (va_runV (As := [.int v1]) (rest := []) ⟨hx, hb, hml, hown, hts⟩ (kX1_lesserEnd l D cy (aQ 1) aG G v1 r49 k49) (cwV 1 hts gX5_edge_X1_lesserEnd rfl rfl rfl (by decide +kernel) ⟨Nat.le_of_ble_eq_true rfl, Nat.le_of_ble_eq_true rfl⟩) (dk_preV hK (hP.sub (ws' := wNt cy (aQ 1) aG G) [2, 3, 4, 5] rfl) (ci := 1) (q0 := 0) rfl rfl) rfl rfl hl.1 rfl (lv_room (Nat.le_of_ble_eq_true rfl)) dX5_edge_49 ⟨Nat.zero_le _, Nat.zero_le _⟩) ?_
      exact W.iret (v := r49) hx hb hr (fun t ht hW => ⟨r49, rfl, Option.some.inj hf, ht⟩) t_nil dX5_edge_52
    have hf := dk_neg hf q14_0
    by_cases q14_1 : v2 = 1
    · have hf := dk_pos hf q14_1
      refine lv_tableIn (tgt := 53) hx hb dX5_edge_14 (by rw [q14_1]; decide) (by rw [q14_1]; decide) (by rw [q14_1]; rfl) (by decide) ?_
      refine lv_aload_n hx hb dX5_edge_53 rfl (lv_at hl 0 rfl) ?_
      refine va_get (D := D) (ci := 5) (v := .ref (aQ 1)) (C := RX5) (T := TX5) (N := 10) hx hb hts iX5_edge_X5 hown hK.1 hP 0 rfl rfl 1 (by decide) (hts (.fieldLink RX5 19 "DarkPlace" "ground" "LDarkPlace$Net;") (List.mem_of_getElem? (i := 1) rfl)) (fun _ h9 => h9) rfl dX5_edge_54 ?_
      refine lv_iload_n hx hb dX5_edge_57 rfl (lv_at hl 1 rfl) ?_
      obtain ⟨r58, k58, hf⟩ := dk_bind hf
      refine dk_ri (va_runV (As := [.int v1]) (rest := []) ⟨hx, hb, hml, hown, hts⟩ (kX1_greaterEnd l D cy (aQ 1) aG G v1 r58 k58) (cwV 1 hts gX5_edge_X1_greaterEnd rfl rfl rfl (by decide +kernel) ⟨Nat.le_of_ble_eq_true rfl, Nat.le_of_ble_eq_true rfl⟩) (dk_preV hK (hP.sub (ws' := wNt cy (aQ 1) aG G) [2, 3, 4, 5] rfl) (ci := 1) (q0 := 0) rfl rfl) rfl rfl hl.1 rfl (lv_room (Nat.le_of_ble_eq_true rfl)) dX5_edge_58 ⟨Nat.zero_le _, Nat.zero_le _⟩) ?_
      exact W.iret (v := r58) hx hb hr (fun t ht hW => ⟨r58, rfl, Option.some.inj hf, ht⟩) t_nil dX5_edge_61
    have hf := dk_neg hf q14_1
    by_cases q14_2 : v2 = 2
    · have hf := dk_pos hf q14_2
      refine lv_tableIn (tgt := 62) hx hb dX5_edge_14 (by rw [q14_2]; decide) (by rw [q14_2]; decide) (by rw [q14_2]; rfl) (by decide) ?_
      refine lv_aload_n hx hb dX5_edge_62 rfl (lv_at hl 0 rfl) ?_
      refine va_get (D := D) (ci := 5) (v := .ref (aQ 3)) (C := RX5) (T := TX5) (N := 10) hx hb hts iX5_edge_X5 hown hK.1 hP 0 rfl rfl 3 (by decide) (hts (.fieldLink RX5 31 "DarkPlace" "now" "LDarkPlace$Stand;") (List.mem_of_getElem? (i := 2) rfl)) (fun _ h9 => h9) rfl dX5_edge_63 ?_
      refine lv_iload_n hx hb dX5_edge_66 rfl (lv_at hl 1 rfl) ?_
      obtain ⟨r67, k67, hf⟩ := dk_bind hf
      refine dk_ri (va_runV (As := [.int v1]) (rest := []) ⟨hx, hb, hml, hown, hts⟩ (kX3_stateOf l D cy (aQ 3) aT (aQ 1) aG T G v1 r67 k67) (cwV 1 hts gX5_edge_X3_stateOf rfl rfl rfl (by decide +kernel) ⟨Nat.le_of_ble_eq_true rfl, Nat.le_of_ble_eq_true rfl⟩) (dk_preV hK (hP.sub (ws' := wSt cy (aQ 3) aT (aQ 1) T ++ wNt cy (aQ 1) aG G) [6, 7, 8, 2, 3, 4, 5] rfl) (ci := 3) (q0 := 0) rfl rfl) rfl rfl hl.1 rfl (lv_room (Nat.le_of_ble_eq_true rfl)) dX5_edge_67 ⟨Nat.zero_le _, Nat.zero_le _⟩) ?_
      exact W.iret (v := r67) hx hb hr (fun t ht hW => ⟨r67, rfl, Option.some.inj hf, ht⟩) t_nil dX5_edge_70
    have hf := dk_neg hf q14_2
    by_cases q14_3 : v2 = 3
    · have hf := dk_pos hf q14_3
      refine lv_tableIn (tgt := 71) hx hb dX5_edge_14 (by rw [q14_3]; decide) (by rw [q14_3]; decide) (by rw [q14_3]; rfl) (by decide) ?_
      refine lv_aload_n hx hb dX5_edge_71 rfl (lv_at hl 0 rfl) ?_
      refine va_get (D := D) (ci := 5) (v := .ref (aQ 3)) (C := RX5) (T := TX5) (N := 10) hx hb hts iX5_edge_X5 hown hK.1 hP 0 rfl rfl 3 (by decide) (hts (.fieldLink RX5 31 "DarkPlace" "now" "LDarkPlace$Stand;") (List.mem_of_getElem? (i := 2) rfl)) (fun _ h9 => h9) rfl dX5_edge_72 ?_
      refine lv_iload_n hx hb dX5_edge_75 rfl (lv_at hl 1 rfl) ?_
      obtain ⟨r76, k76, hf⟩ := dk_bind hf
      refine dk_ri (va_runV (As := [.int v1]) (rest := []) ⟨hx, hb, hml, hown, hts⟩ (kX3_whoIsOutThrough l D cy (aQ 3) aT (aQ 1) aG T G v1 r76 k76) (cwV 1 hts gX5_edge_X3_whoIsOutThrough rfl rfl rfl (by decide +kernel) ⟨Nat.le_of_ble_eq_true rfl, Nat.le_of_ble_eq_true rfl⟩) (dk_preV hK (hP.sub (ws' := wSt cy (aQ 3) aT (aQ 1) T ++ wNt cy (aQ 1) aG G) [6, 7, 8, 2, 3, 4, 5] rfl) (ci := 3) (q0 := 0) rfl rfl) rfl rfl hl.1 rfl (lv_room (Nat.le_of_ble_eq_true rfl)) dX5_edge_76 ⟨Nat.zero_le _, Nat.zero_le _⟩) ?_
      exact W.iret (v := r76) hx hb hr (fun t ht hW => ⟨r76, rfl, Option.some.inj hf, ht⟩) t_nil dX5_edge_79
    have hf := dk_neg hf q14_3
    refine lv_tableOut (tgt := 80) hx hb dX5_edge_14 (dk_tabOut 0 4 (by decide) (fun k h1 h2 => by
      rcases (show k = 0 ∨ k = 1 ∨ k = 2 ∨ k = 3 by omega) with rfl | rfl | rfl | rfl
      · exact q14_0
      · exact q14_1
      · exact q14_2
      · exact q14_3)) (by decide) ?_
    refine lv_bipush (v := (-2)) hx hb dX5_edge_80 (by decide) ?_
    exact W.iret (v := (-2)) hx hb hr (fun t ht hW => ⟨(-2), rfl, Option.some.inj hf, ht⟩) t_nil dX5_edge_82
  · refine lv_iconst (v := (-1)) hx hb dX5_edge_11 (by decide) ?_
    exact W.iret (v := (-1)) hx hb hr (fun t ht hW => ⟨(-1), rfl, Option.some.inj hf, ht⟩) t_nil dX5_edge_12
theorem iX5_searcher_X5 : ∀ w ∈ wsX50, w ∈ wsX5_searcher := fun _ h => List.mem_cons_of_mem _ (List.mem_append_left _ (List.mem_append_left _ (List.mem_append_right _ h)))
set_option maxHeartbeats 4000000 in
set_option maxRecDepth 100000 in
theorem kX5_searcher (l : Launch) (D : va_G) (cy : Nat → ClassId) (hQ : Nat) (aQ : Nat → Nat) (sdQ : Int64) (aT : Nat → Nat) (aG : Nat → Nat) (Q : dk_O) (T : dk_O) (G : dk_O) (v1 : Int32) (v2 : Int32) (r : Int32) (hf : fX5_searcher Q T G v1 v2 = some r) : dk_RdI l yX5_searcher wsX5_searcher ({ frames := 3, cells := 0, slots := 0, locals := 72 }) D cy [.ref hQ, .int v1, .int v2] (wDp cy hQ aQ sdQ Q ++ wSt cy (aQ 3) aT (aQ 1) T ++ wNt cy (aQ 1) aG G) r := by
  refine Met.ofW (cc := cX5_searcher) (maxL := 3) (ret := (some .int)) (by decide) rfl ?_
  intro p e s m args below meth c s₁ B hml hv
  obtain ⟨rfl, hP, hK⟩ := hv
  have hx := B.exec
  have hb := B.bytes
  have hr := B.returns
  have hts := atoms_spec (ws := wsX5_searcher) B.pre
  have hown : s.vm.findClass RX5 = some m.cls := findClass_of_methodNamed B.named
  have hlocks := B.notSynchronized
  have hl := lv_entry ([.ref hQ, .int v1, .int v2]) (n := 3) (Nat.le_of_ble_eq_true rfl)
  rw [lg_entry_eq]
  generalize (lg_sl ([.ref hQ, .int v1, .int v2]) ++ List.replicate (3 - (lg_sl ([.ref hQ, .int v1, .int v2])).length) Slot.unset).toArray = ls at hl ⊢
  have hl : lv_has ls 3 [(0, .ref hQ), (1, .int v1), (2, .int v2)] := hl
  unfold fX5_searcher at hf
  refine lv_aload_n hx hb dX5_searcher_0 rfl (lv_at hl 0 rfl) ?_
  refine va_get (D := D) (ci := 5) (v := .ref (aQ 3)) (C := RX5) (T := TX5) (N := 10) hx hb hts iX5_searcher_X5 hown hK.1 hP 0 rfl rfl 3 (by decide) (hts (.fieldLink RX5 31 "DarkPlace" "now" "LDarkPlace$Stand;") (List.mem_of_getElem? (i := 1) rfl)) (fun _ h9 => h9) rfl dX5_searcher_1 ?_
  refine lv_iload_n hx hb dX5_searcher_4 rfl (lv_at hl 1 rfl) ?_
  obtain ⟨r5, k5, hf⟩ := dk_bind hf
  refine dk_ri (va_runV (As := [.int v1]) (rest := []) ⟨hx, hb, hml, hown, hts⟩ (kX3_isSearcher l D cy (aQ 3) aT (aQ 1) aG T G v1 r5 k5) (cwV 1 hts gX5_searcher_X3_isSearcher rfl rfl rfl (by decide +kernel) ⟨Nat.le_of_ble_eq_true rfl, Nat.le_of_ble_eq_true rfl⟩) (dk_preV hK (hP.sub (ws' := wSt cy (aQ 3) aT (aQ 1) T ++ wNt cy (aQ 1) aG G) [2, 3, 4, 5, 6, 7, 8] rfl) (ci := 3) (q0 := 0) rfl rfl) rfl rfl hl.1 rfl (lv_room (Nat.le_of_ble_eq_true rfl)) dX5_searcher_5 ⟨Nat.zero_le _, Nat.zero_le _⟩) ?_
  refine dk_ine (tgt := 13) hx hb dX5_searcher_8 (by decide) hf (fun hf => ?_) (fun hf => ?_)
  · refine lv_iload_n hx hb dX5_searcher_13 rfl (lv_at hl 2 rfl) ?_
    by_cases q14_0 : v2 = 0
    · have hf := dk_pos hf q14_0
      refine lv_tableIn (tgt := 44) hx hb dX5_searcher_14 (by rw [q14_0]; decide) (by rw [q14_0]; decide) (by rw [q14_0]; rfl) (by decide) ?_
      refine lv_aload_n hx hb dX5_searcher_44 rfl (lv_at hl 0 rfl) ?_
      refine va_get (D := D) (ci := 5) (v := .ref (aQ 3)) (C := RX5) (T := TX5) (N := 10) hx hb hts iX5_searcher_X5 hown hK.1 hP 0 rfl rfl 3 (by decide) (hts (.fieldLink RX5 31 "DarkPlace" "now" "LDarkPlace$Stand;") (List.mem_of_getElem? (i := 1) rfl)) (fun _ h9 => h9) rfl dX5_searcher_45 ?_
      refine lv_iload_n hx hb dX5_searcher_48 rfl (lv_at hl 1 rfl) ?_
      obtain ⟨r49, k49, hf⟩ := dk_bind hf
      refine dk_ri (va_runV (As := [.int v1]) (rest := []) ⟨hx, hb, hml, hown, hts⟩ (kX3_placeOf l D cy (aQ 3) aT (aQ 1) aG T G v1 r49 k49) (cwV 1 hts gX5_searcher_X3_placeOf rfl rfl rfl (by decide +kernel) ⟨Nat.le_of_ble_eq_true rfl, Nat.le_of_ble_eq_true rfl⟩) (dk_preV hK (hP.sub (ws' := wSt cy (aQ 3) aT (aQ 1) T ++ wNt cy (aQ 1) aG G) [2, 3, 4, 5, 6, 7, 8] rfl) (ci := 3) (q0 := 0) rfl rfl) rfl rfl hl.1 rfl (lv_room (Nat.le_of_ble_eq_true rfl)) dX5_searcher_49 ⟨Nat.zero_le _, Nat.zero_le _⟩) ?_
      exact W.iret (v := r49) hx hb hr (fun t ht hW => ⟨r49, rfl, Option.some.inj hf, ht⟩) t_nil dX5_searcher_52
    have hf := dk_neg hf q14_0
    by_cases q14_1 : v2 = 1
    · have hf := dk_pos hf q14_1
      refine lv_tableIn (tgt := 53) hx hb dX5_searcher_14 (by rw [q14_1]; decide) (by rw [q14_1]; decide) (by rw [q14_1]; rfl) (by decide) ?_
      refine lv_aload_n hx hb dX5_searcher_53 rfl (lv_at hl 0 rfl) ?_
      refine va_get (D := D) (ci := 5) (v := .ref (aQ 3)) (C := RX5) (T := TX5) (N := 10) hx hb hts iX5_searcher_X5 hown hK.1 hP 0 rfl rfl 3 (by decide) (hts (.fieldLink RX5 31 "DarkPlace" "now" "LDarkPlace$Stand;") (List.mem_of_getElem? (i := 1) rfl)) (fun _ h9 => h9) rfl dX5_searcher_54 ?_
      refine lv_iload_n hx hb dX5_searcher_57 rfl (lv_at hl 1 rfl) ?_
      obtain ⟨r58, k58, hf⟩ := dk_bind hf
      refine dk_ri (va_runV (As := [.int v1]) (rest := []) ⟨hx, hb, hml, hown, hts⟩ (kX3_wayOutOf l D cy (aQ 3) aT (aQ 1) aG T G v1 r58 k58) (cwV 1 hts gX5_searcher_X3_wayOutOf rfl rfl rfl (by decide +kernel) ⟨Nat.le_of_ble_eq_true rfl, Nat.le_of_ble_eq_true rfl⟩) (dk_preV hK (hP.sub (ws' := wSt cy (aQ 3) aT (aQ 1) T ++ wNt cy (aQ 1) aG G) [2, 3, 4, 5, 6, 7, 8] rfl) (ci := 3) (q0 := 0) rfl rfl) rfl rfl hl.1 rfl (lv_room (Nat.le_of_ble_eq_true rfl)) dX5_searcher_58 ⟨Nat.zero_le _, Nat.zero_le _⟩) ?_
      exact W.iret (v := r58) hx hb hr (fun t ht hW => ⟨r58, rfl, Option.some.inj hf, ht⟩) t_nil dX5_searcher_61
    have hf := dk_neg hf q14_1
    by_cases q14_2 : v2 = 2
    · have hf := dk_pos hf q14_2
      refine lv_tableIn (tgt := 62) hx hb dX5_searcher_14 (by rw [q14_2]; decide) (by rw [q14_2]; decide) (by rw [q14_2]; rfl) (by decide) ?_
      refine lv_aload_n hx hb dX5_searcher_62 rfl (lv_at hl 0 rfl) ?_
      refine va_get (D := D) (ci := 5) (v := .ref (aQ 3)) (C := RX5) (T := TX5) (N := 10) hx hb hts iX5_searcher_X5 hown hK.1 hP 0 rfl rfl 3 (by decide) (hts (.fieldLink RX5 31 "DarkPlace" "now" "LDarkPlace$Stand;") (List.mem_of_getElem? (i := 1) rfl)) (fun _ h9 => h9) rfl dX5_searcher_63 ?_
      refine lv_iload_n hx hb dX5_searcher_66 rfl (lv_at hl 1 rfl) ?_
      obtain ⟨r67, k67, hf⟩ := dk_bind hf
      refine dk_ri (va_runV (As := [.int v1]) (rest := []) ⟨hx, hb, hml, hown, hts⟩ (kX3_openEdges l D cy (aQ 3) aT (aQ 1) aG T G v1 r67 k67) (cwV 1 hts gX5_searcher_X3_openEdges rfl rfl rfl (by decide +kernel) ⟨Nat.le_of_ble_eq_true rfl, Nat.le_of_ble_eq_true rfl⟩) (dk_preV hK (hP.sub (ws' := wSt cy (aQ 3) aT (aQ 1) T ++ wNt cy (aQ 1) aG G) [2, 3, 4, 5, 6, 7, 8] rfl) (ci := 3) (q0 := 0) rfl rfl) rfl rfl hl.1 rfl (lv_room (Nat.le_of_ble_eq_true rfl)) dX5_searcher_67 ⟨Nat.zero_le _, Nat.zero_le _⟩) ?_
      exact W.iret (v := r67) hx hb hr (fun t ht hW => ⟨r67, rfl, Option.some.inj hf, ht⟩) t_nil dX5_searcher_70
    have hf := dk_neg hf q14_2
    by_cases q14_3 : v2 = 3
    · have hf := dk_pos hf q14_3
      refine lv_tableIn (tgt := 71) hx hb dX5_searcher_14 (by rw [q14_3]; decide) (by rw [q14_3]; decide) (by rw [q14_3]; rfl) (by decide) ?_
      refine lv_aload_n hx hb dX5_searcher_71 rfl (lv_at hl 0 rfl) ?_
      refine va_get (D := D) (ci := 5) (v := .ref (aQ 3)) (C := RX5) (T := TX5) (N := 10) hx hb hts iX5_searcher_X5 hown hK.1 hP 0 rfl rfl 3 (by decide) (hts (.fieldLink RX5 31 "DarkPlace" "now" "LDarkPlace$Stand;") (List.mem_of_getElem? (i := 1) rfl)) (fun _ h9 => h9) rfl dX5_searcher_72 ?_
      refine lv_iload_n hx hb dX5_searcher_75 rfl (lv_at hl 1 rfl) ?_
      obtain ⟨r76, k76, hf⟩ := dk_bind hf
      refine dk_ri (va_runV (As := [.int v1]) (rest := []) ⟨hx, hb, hml, hown, hts⟩ (kX3_cautiousEdge l D cy (aQ 3) aT (aQ 1) aG T G v1 r76 k76) (cwV 1 hts gX5_searcher_X3_cautiousEdge rfl rfl rfl (by decide +kernel) ⟨Nat.le_of_ble_eq_true rfl, Nat.le_of_ble_eq_true rfl⟩) (dk_preV hK (hP.sub (ws' := wSt cy (aQ 3) aT (aQ 1) T ++ wNt cy (aQ 1) aG G) [2, 3, 4, 5, 6, 7, 8] rfl) (ci := 3) (q0 := 0) rfl rfl) rfl rfl hl.1 rfl (lv_room (Nat.le_of_ble_eq_true rfl)) dX5_searcher_76 ⟨Nat.zero_le _, Nat.zero_le _⟩) ?_
      exact W.iret (v := r76) hx hb hr (fun t ht hW => ⟨r76, rfl, Option.some.inj hf, ht⟩) t_nil dX5_searcher_79
    have hf := dk_neg hf q14_3
    refine lv_tableOut (tgt := 80) hx hb dX5_searcher_14 (dk_tabOut 0 4 (by decide) (fun k h1 h2 => by
      rcases (show k = 0 ∨ k = 1 ∨ k = 2 ∨ k = 3 by omega) with rfl | rfl | rfl | rfl
      · exact q14_0
      · exact q14_1
      · exact q14_2
      · exact q14_3)) (by decide) ?_
    refine lv_bipush (v := (-2)) hx hb dX5_searcher_80 (by decide) ?_
    exact W.iret (v := (-2)) hx hb hr (fun t ht hW => ⟨(-2), rfl, Option.some.inj hf, ht⟩) t_nil dX5_searcher_82
  · refine lv_iconst (v := (-1)) hx hb dX5_searcher_11 (by decide) ?_
    exact W.iret (v := (-1)) hx hb hr (fun t ht hW => ⟨(-1), rfl, Option.some.inj hf, ht⟩) t_nil dX5_searcher_12
theorem iX5_step_X5 : ∀ w ∈ wsX50, w ∈ wsX5_step := fun _ h => List.mem_cons_of_mem _ (List.mem_append_left _ (List.mem_append_left _ (List.mem_append_left _ (List.mem_append_right _ h))))
set_option maxHeartbeats 4000000 in
set_option maxRecDepth 100000 in
theorem kX5_step (l : Launch) (D : va_G) (cy : Nat → ClassId) (hQ : Nat) (aQ : Nat → Nat) (sdQ : Int64) (aT : Nat → Nat) (aG : Nat → Nat) (bC : Nat) (sC : Nat → Nat) (aC : Nat → Nat → Nat) (sz : Nat) (Q : dk_O) (T : dk_O) (G : dk_O) (C : dk_O) (CB : Nat → dk_O) (v1 : Int32) (v2 : Int32) (r : Int32) (oT_I : (Nat → Int32)) (oT_1 : (Nat → Int32)) (oT_2 : (Nat → Int32)) (oC_I : (Nat → Int32)) (oC_B : (Nat → dk_O)) (hf : fX5_step Q T G C CB v1 v2 = some (r, oT_I, oT_1, oT_2, oC_I, oC_B)) : dk_MuIA l yX5_step wsX5_step ({ frames := 4, cells := 0, slots := 0, locals := 86 }) D cy [.ref hQ, .int v1, .int v2] (wDp cy hQ aQ sdQ Q ++ wSt cy (aQ 3) aT (aQ 1) T ++ wNt cy (aQ 1) aG G ++ wAo (aQ 5) bC C ++ wPo cy bC 14 sC ++ wPl cy sC aC (aQ 1) CB) (fun uu => wDp cy hQ aQ sdQ Q ++ wSt cy (aQ 3) aT (aQ 1) (oT_I, dk_upA (dk_upA T.2 1 oT_1) 2 oT_2) ++ wNt cy (aQ 1) aG G ++ wAo (aQ 5) bC (oC_I, C.2) ++ wPo cy bC 14 uu.1 ++ wPl cy uu.1 uu.2 (aQ 1) oC_B) sz r := by
  refine Met.ofW (cc := cX5_step) (maxL := 3) (ret := (some .int)) (by decide) rfl ?_
  intro p e s m args below meth c s₁ B hml hv
  obtain ⟨rfl, hsz, hP, hK, hD0⟩ := hv
  have hx := B.exec
  have hb := B.bytes
  have hr := B.returns
  have hts := atoms_spec (ws := wsX5_step) B.pre
  have hown : s.vm.findClass RX5 = some m.cls := findClass_of_methodNamed B.named
  have hlocks := B.notSynchronized
  subst hsz
  have hD := hD0.self (sz := s.heap.size)
  generalize hAe : va_A (wDp cy hQ aQ sdQ Q ++ wSt cy (aQ 3) aT (aQ 1) T ++ wNt cy (aQ 1) aG G ++ wAo (aQ 5) bC C ++ wPo cy bC 14 sC ++ wPl cy sC aC (aQ 1) CB) s.heap.size = A at hD ⊢
  have hA : ∀ q : Nat, s.heap.size ≤ q → A q := fun q h => by rw [← hAe]; exact Or.inr h
  have hS : va_S A s.heap s.heap [] := va_S.rf
  have hl := lv_entry ([.ref hQ, .int v1, .int v2]) (n := 3) (Nat.le_of_ble_eq_true rfl)
  rw [lg_entry_eq]
  generalize (lg_sl ([.ref hQ, .int v1, .int v2]) ++ List.replicate (3 - (lg_sl ([.ref hQ, .int v1, .int v2])).length) Slot.unset).toArray = ls at hl ⊢
  have hl : lv_has ls 3 [(0, .ref hQ), (1, .int v1), (2, .int v2)] := hl
  unfold fX5_step at hf
  refine lv_aload_n hx hb dX5_step_0 rfl (lv_at hl 0 rfl) ?_
  refine va_get (D := D) (ci := 5) (v := .ref (aQ 3)) (C := RX5) (T := TX5) (N := 10) hx hb hts iX5_step_X5 hown hK.1 hP 0 rfl rfl 3 (by decide) (hts (.fieldLink RX5 31 "DarkPlace" "now" "LDarkPlace$Stand;") (List.mem_of_getElem? (i := 1) rfl)) (fun _ h9 => h9) rfl dX5_step_1 ?_
  refine lv_iload_n hx hb dX5_step_4 rfl (lv_at hl 1 rfl) ?_
  obtain ⟨r5, k5, hf⟩ := dk_bind hf
  refine dk_ri (va_runV (As := [.int v1]) (rest := []) ⟨hx, hb, hml, hown, hts⟩ (kX3_isSearcher l D cy (aQ 3) aT (aQ 1) aG T G v1 r5 k5) (cwV 1 hts gX5_step_X3_isSearcher rfl rfl rfl (by decide +kernel) ⟨Nat.le_of_ble_eq_true rfl, Nat.le_of_ble_eq_true rfl⟩) (dk_preV hK (hP.sub (ws' := wSt cy (aQ 3) aT (aQ 1) T ++ wNt cy (aQ 1) aG G) [2, 3, 4, 5, 6, 7, 8] rfl) (ci := 3) (q0 := 0) rfl rfl) rfl rfl hl.1 rfl (lv_room (Nat.le_of_ble_eq_true rfl)) dX5_step_5 ⟨Nat.zero_le _, Nat.zero_le _⟩) ?_
  refine dk_ieq (tgt := 22) hx hb dX5_step_8 (by decide) hf (fun hf => ?_) (fun hf => ?_)
  · refine lv_iconst (v := (-1)) hx hb dX5_step_22 (by decide) ?_
    have e := Option.some.inj hf
    simp only [Prod.mk.injEq] at e
    obtain ⟨e0, e1, e2, e3, e4, e5⟩ := e
    subst e1
    subst e2
    subst e3
    subst e4
    subst e5
    exact W.iret (v := (-1)) hx hb hr (fun t ht hW => ⟨⟨(-1), (sC, aC), rfl, e0, by rw [ht]; exact hP, hD⟩, hS.F ht⟩) hS.2.2 dX5_step_23
  · refine lv_aload_n hx hb dX5_step_11 rfl (lv_at hl 0 rfl) ?_
    refine va_get (D := D) (ci := 5) (v := .ref (aQ 1)) (C := RX5) (T := TX5) (N := 10) hx hb hts iX5_step_X5 hown hK.1 hP 0 rfl rfl 1 (by decide) (hts (.fieldLink RX5 19 "DarkPlace" "ground" "LDarkPlace$Net;") (List.mem_of_getElem? (i := 2) rfl)) (fun _ h9 => h9) rfl dX5_step_12 ?_
    refine lv_iload_n hx hb dX5_step_15 rfl (lv_at hl 2 rfl) ?_
    obtain ⟨r16, k16, hf⟩ := dk_bind hf
    refine dk_ri (va_runV (As := [.int v2]) (rest := []) ⟨hx, hb, hml, hown, hts⟩ (kX1_isEdge l D cy (aQ 1) aG G v2 r16 k16) (cwV 1 hts gX5_step_X1_isEdge rfl rfl rfl (by decide +kernel) ⟨Nat.le_of_ble_eq_true rfl, Nat.le_of_ble_eq_true rfl⟩) (dk_preV hK (hP.sub (ws' := wNt cy (aQ 1) aG G) [5, 6, 7, 8] rfl) (ci := 1) (q0 := 0) rfl rfl) rfl rfl hl.1 rfl (lv_room (Nat.le_of_ble_eq_true rfl)) dX5_step_16 ⟨Nat.zero_le _, Nat.zero_le _⟩) ?_
    refine dk_ine (tgt := 24) hx hb dX5_step_19 (by decide) hf (fun hf => ?_) (fun hf => ?_)
    · refine lv_aload_n hx hb dX5_step_24 rfl (lv_at hl 0 rfl) ?_
      refine va_get (D := D) (ci := 5) (v := .ref (aQ 3)) (C := RX5) (T := TX5) (N := 10) hx hb hts iX5_step_X5 hown hK.1 hP 0 rfl rfl 3 (by decide) (hts (.fieldLink RX5 31 "DarkPlace" "now" "LDarkPlace$Stand;") (List.mem_of_getElem? (i := 1) rfl)) (fun _ h9 => h9) rfl dX5_step_25 ?_
      refine lv_iload_n hx hb dX5_step_28 rfl (lv_at hl 1 rfl) ?_
      refine lv_iload_n hx hb dX5_step_29 rfl (lv_at hl 2 rfl) ?_
      obtain ⟨r30, k30, hf⟩ := dk_bind hf
      refine dk_ri (va_runV (As := [.int v1, .int v2]) (rest := []) ⟨hx, hb, hml, hown, hts⟩ (kX3_canGo l D cy (aQ 3) aT (aQ 1) aG T G v1 v2 r30 k30) (cwV 2 hts gX5_step_X3_canGo rfl rfl rfl (by decide +kernel) ⟨Nat.le_of_ble_eq_true rfl, Nat.le_of_ble_eq_true rfl⟩) (dk_preV hK (hP.sub (ws' := wSt cy (aQ 3) aT (aQ 1) T ++ wNt cy (aQ 1) aG G) [2, 3, 4, 5, 6, 7, 8] rfl) (ci := 3) (q0 := 0) rfl rfl) rfl rfl hl.1 rfl (lv_room (Nat.le_of_ble_eq_true rfl)) dX5_step_30 ⟨Nat.zero_le _, Nat.zero_le _⟩) ?_
      refine dk_ine (tgt := 39) hx hb dX5_step_33 (by decide) hf (fun hf => ?_) (fun hf => ?_)
      · refine lv_aload_n hx hb dX5_step_39 rfl (lv_at hl 0 rfl) ?_
        refine va_get (D := D) (ci := 5) (v := .ref (aQ 5)) (C := RX5) (T := TX5) (N := 10) hx hb hts iX5_step_X5 hown hK.1 hP 0 rfl rfl 5 (by decide) (hts (.fieldLink RX5 41 "DarkPlace" "acts" "LDarkPlace$Acts;") (List.mem_of_getElem? (i := 3) rfl)) (fun _ h9 => h9) rfl dX5_step_40 ?_
        refine lv_aload_n hx hb dX5_step_43 rfl (lv_at hl 0 rfl) ?_
        refine va_get (D := D) (ci := 5) (v := .ref (aQ 3)) (C := RX5) (T := TX5) (N := 10) hx hb hts iX5_step_X5 hown hK.1 hP 0 rfl rfl 3 (by decide) (hts (.fieldLink RX5 31 "DarkPlace" "now" "LDarkPlace$Stand;") (List.mem_of_getElem? (i := 1) rfl)) (fun _ h9 => h9) rfl dX5_step_44 ?_
        obtain ⟨⟨i47_0, g47_1⟩, k47, hf⟩ := dk_bind hf
        dsimp only at hf
        have hPc := hP.part (cx := wAo (aQ 5) bC C ++ wPo cy bC 14 sC ++ wSt cy (aQ 3) aT (aQ 1) T) [9, 10, 2, 3, 4] rfl
        have hDc := hD.part (cx := wAo (aQ 5) bC C ++ wPo cy bC 14 sC ++ wSt cy (aQ 3) aT (aQ 1) T) [9, 10, 2, 3, 4] (by decide) rfl
        have hFc := va_freeP (cx := wAo (aQ 5) bC C ++ wPo cy bC 14 sC ++ wSt cy (aQ 3) aT (aQ 1) T) hD hS hA [9, 10, 2, 3, 4] rfl
        refine va_callv (va_runV (As := [.ref (aQ 3)]) (rest := []) ⟨hx, hb, hml, hown, hts⟩ (kX0_remember l D cy (aQ 5) bC sC aC (aQ 1) (aQ 3) aT (aQ 1) s.heap.size C CB T i47_0 g47_1 k47) (cwV 1 hts gX5_step_X0_remember rfl rfl rfl (by decide +kernel) ⟨Nat.le_of_ble_eq_true rfl, Nat.le_of_ble_eq_true rfl⟩) (dk_premV hK hPc hDc (ci := 0) (q0 := 0) rfl rfl) rfl rfl hl.1 rfl (lv_room (Nat.le_of_ble_eq_true rfl)) dX5_step_47 ⟨Nat.zero_le _, Nat.zero_le _⟩) hS (fun q _ h => hFc q h) hFc (fun u t H1 locs ht hvm hw hB hz1 hk1 hS => ?_)
        obtain ⟨sa47, aa47⟩ := u
        obtain ⟨hP1, hD1⟩ := hB
        rw [ht] at hP1
        obtain ⟨hP, hD⟩ := va_joinP (wr := ([0, 1, 5, 6, 7, 8] : List Nat).filterMap (fun i => (wDp cy hQ aQ sdQ Q ++ wSt cy (aQ 3) aT (aQ 1) T ++ wNt cy (aQ 1) aG G ++ wAo (aQ 5) bC C ++ wPo cy bC 14 sC)[i]?)) (rx := wAo (aQ 5) bC (i47_0, C.2) ++ wPo cy bC 14 sa47 ++ wSt cy (aQ 3) aT (aQ 1) T) hP hD [9, 10, 2, 3, 4] [0, 1, 5, 6, 7, 8] rfl rfl (by decide) (by decide) hk1 hFc hP1 hD1
        generalize H1 = H at hP hS ⊢
        have hP : va_P D vwCl (wDp cy hQ aQ sdQ Q ++ wSt cy (aQ 3) aT (aQ 1) T ++ wNt cy (aQ 1) aG G ++ wAo (aQ 5) bC (i47_0, C.2) ++ wPo cy bC 14 sa47 ++ wPl cy sa47 aa47 (aQ 1) g47_1) H := hP.part (cx := wDp cy hQ aQ sdQ Q ++ wSt cy (aQ 3) aT (aQ 1) T ++ wNt cy (aQ 1) aG G ++ wAo (aQ 5) bC (i47_0, C.2) ++ wPo cy bC 14 sa47) [0, 1, 8, 9, 10, 2, 3, 4, 5, 6, 7] rfl
        have hD : va_D A (wDp cy hQ aQ sdQ Q ++ wSt cy (aQ 3) aT (aQ 1) T ++ wNt cy (aQ 1) aG G ++ wAo (aQ 5) bC (i47_0, C.2) ++ wPo cy bC 14 sa47 ++ wPl cy sa47 aa47 (aQ 1) g47_1) := hD.part (cx := wDp cy hQ aQ sdQ Q ++ wSt cy (aQ 3) aT (aQ 1) T ++ wNt cy (aQ 1) aG G ++ wAo (aQ 5) bC (i47_0, C.2) ++ wPo cy bC 14 sa47) [0, 1, 8, 9, 10, 2, 3, 4, 5, 6, 7] (by decide) rfl
        refine lv_aload_n hx hb dX5_step_50 rfl (lv_at hl 0 rfl) ?_
        refine va_get (D := D) (ci := 5) (v := .ref (aQ 3)) (C := RX5) (T := TX5) (N := 10) hx hb hts iX5_step_X5 hown hK.1 hP 0 rfl rfl 3 (by decide) (hts (.fieldLink RX5 31 "DarkPlace" "now" "LDarkPlace$Stand;") (List.mem_of_getElem? (i := 1) rfl)) (fun _ h9 => h9) rfl dX5_step_51 ?_
        refine lv_iload_n hx hb dX5_step_54 rfl (lv_at hl 1 rfl) ?_
        refine lv_iload_n hx hb dX5_step_55 rfl (lv_at hl 2 rfl) ?_
        obtain ⟨⟨i56_0, g56_1, g56_2⟩, k56, hf⟩ := dk_bind hf
        dsimp only at hf
        have hPc := hP.sub (ws' := wSt cy (aQ 3) aT (aQ 1) T ++ wNt cy (aQ 1) aG G) [2, 3, 4, 5, 6, 7, 8] rfl
        have hDc := hD.sub (ws' := wSt cy (aQ 3) aT (aQ 1) T ++ wNt cy (aQ 1) aG G) [2, 3, 4, 5, 6, 7, 8] (by decide) rfl
        have hFc := va_free (wc := wSt cy (aQ 3) aT (aQ 1) T ++ wNt cy (aQ 1) aG G) hD hS hA [2, 3, 4, 5, 6, 7, 8] rfl
        refine va_callv (va_runV (As := [.int v1, .int v2]) (rest := []) ⟨hx, hb, hml, hown, hts⟩ (kX3_go l D cy (aQ 3) aT (aQ 1) aG H.size T G v1 v2 i56_0 g56_1 g56_2 k56) (cwV 2 hts gX5_step_X3_go rfl rfl rfl (by decide +kernel) ⟨Nat.le_of_ble_eq_true rfl, Nat.le_of_ble_eq_true rfl⟩) (dk_premV hK hPc hDc (ci := 3) (q0 := 0) rfl rfl) rfl rfl hl.1 rfl (lv_room (Nat.le_of_ble_eq_true rfl)) dX5_step_56 ⟨Nat.zero_le _, Nat.zero_le _⟩) hS (fun q _ h => hFc q h) hFc (fun u t H1 locs ht hvm hw hB hz1 hk1 hS => ?_)
        obtain ⟨hP1, hD1⟩ := hB
        rw [ht] at hP1
        obtain ⟨hP, hD⟩ := va_joinQ (wr := ([0, 1, 9, 10] : List Nat).filterMap (fun i => (wDp cy hQ aQ sdQ Q ++ wSt cy (aQ 3) aT (aQ 1) T ++ wNt cy (aQ 1) aG G ++ wAo (aQ 5) bC (i47_0, C.2) ++ wPo cy bC 14 sa47)[i]?)) (w1 := wSt cy (aQ 3) aT (aQ 1) (i56_0, dk_upA (dk_upA T.2 1 g56_1) 2 g56_2) ++ wNt cy (aQ 1) aG G) (pl := wPl cy sa47 aa47 (aQ 1) g47_1) hP hD [2, 3, 4, 5, 6, 7, 8] [0, 1, 9, 10] rfl rfl (by decide) (by decide) hk1 hFc hP1 hD1
        generalize H1 = H at hP hS ⊢
        have hP : va_P D vwCl (wDp cy hQ aQ sdQ Q ++ wSt cy (aQ 3) aT (aQ 1) (i56_0, dk_upA (dk_upA T.2 1 g56_1) 2 g56_2) ++ wNt cy (aQ 1) aG G ++ wAo (aQ 5) bC (i47_0, C.2) ++ wPo cy bC 14 sa47 ++ wPl cy sa47 aa47 (aQ 1) g47_1) H := hP.part (cx := wDp cy hQ aQ sdQ Q ++ wSt cy (aQ 3) aT (aQ 1) (i56_0, dk_upA (dk_upA T.2 1 g56_1) 2 g56_2) ++ wNt cy (aQ 1) aG G ++ wAo (aQ 5) bC (i47_0, C.2) ++ wPo cy bC 14 sa47) [0, 1, 4, 5, 6, 7, 8, 9, 10, 2, 3] rfl
        have hD : va_D A (wDp cy hQ aQ sdQ Q ++ wSt cy (aQ 3) aT (aQ 1) (i56_0, dk_upA (dk_upA T.2 1 g56_1) 2 g56_2) ++ wNt cy (aQ 1) aG G ++ wAo (aQ 5) bC (i47_0, C.2) ++ wPo cy bC 14 sa47 ++ wPl cy sa47 aa47 (aQ 1) g47_1) := hD.part (cx := wDp cy hQ aQ sdQ Q ++ wSt cy (aQ 3) aT (aQ 1) (i56_0, dk_upA (dk_upA T.2 1 g56_1) 2 g56_2) ++ wNt cy (aQ 1) aG G ++ wAo (aQ 5) bC (i47_0, C.2) ++ wPo cy bC 14 sa47) [0, 1, 4, 5, 6, 7, 8, 9, 10, 2, 3] (by decide) rfl
        refine lv_aload_n hx hb dX5_step_59 rfl (lv_at hl 0 rfl) ?_
        refine va_get (D := D) (ci := 5) (v := .ref (aQ 3)) (C := RX5) (T := TX5) (N := 10) hx hb hts iX5_step_X5 hown hK.1 hP 0 rfl rfl 3 (by decide) (hts (.fieldLink RX5 31 "DarkPlace" "now" "LDarkPlace$Stand;") (List.mem_of_getElem? (i := 1) rfl)) (fun _ h9 => h9) rfl dX5_step_60 ?_
        refine lv_iload_n hx hb dX5_step_63 rfl (lv_at hl 1 rfl) ?_
        obtain ⟨r64, k64, hf⟩ := dk_bind hf
        refine dk_ri (va_runV (As := [.int v1]) (rest := []) ⟨hx, hb, hml, hown, hts⟩ (kX3_placeOf l D cy (aQ 3) aT (aQ 1) aG (i56_0, dk_upA (dk_upA T.2 1 g56_1) 2 g56_2) G v1 r64 k64) (cwV 1 hts gX5_step_X3_placeOf rfl rfl rfl (by decide +kernel) ⟨Nat.le_of_ble_eq_true rfl, Nat.le_of_ble_eq_true rfl⟩) (dk_preV hK (hP.sub (ws' := wSt cy (aQ 3) aT (aQ 1) (i56_0, dk_upA (dk_upA T.2 1 g56_1) 2 g56_2) ++ wNt cy (aQ 1) aG G) [2, 3, 4, 5, 6, 7, 8] rfl) (ci := 3) (q0 := 0) rfl rfl) rfl rfl hl.1 rfl (lv_room (Nat.le_of_ble_eq_true rfl)) dX5_step_64 ⟨Nat.zero_le _, Nat.zero_le _⟩) ?_
        have e := Option.some.inj hf
        simp only [Prod.mk.injEq] at e
        obtain ⟨e0, e1, e2, e3, e4, e5⟩ := e
        subst e1
        subst e2
        subst e3
        subst e4
        subst e5
        exact W.iret (v := r64) hx hb hr (fun t ht hW => ⟨⟨r64, (sa47, aa47), rfl, e0, by rw [ht]; exact hP, hD⟩, hS.F ht⟩) hS.2.2 dX5_step_67
      · refine lv_bipush (v := (-3)) hx hb dX5_step_36 (by decide) ?_
        have e := Option.some.inj hf
        simp only [Prod.mk.injEq] at e
        obtain ⟨e0, e1, e2, e3, e4, e5⟩ := e
        subst e1
        subst e2
        subst e3
        subst e4
        subst e5
        exact W.iret (v := (-3)) hx hb hr (fun t ht hW => ⟨⟨(-3), (sC, aC), rfl, e0, by rw [ht]; exact hP, hD⟩, hS.F ht⟩) hS.2.2 dX5_step_38
    · refine lv_iconst (v := (-1)) hx hb dX5_step_22 (by decide) ?_
      have e := Option.some.inj hf
      simp only [Prod.mk.injEq] at e
      obtain ⟨e0, e1, e2, e3, e4, e5⟩ := e
      subst e1
      subst e2
      subst e3
      subst e4
      subst e5
      exact W.iret (v := (-1)) hx hb hr (fun t ht hW => ⟨⟨(-1), (sC, aC), rfl, e0, by rw [ht]; exact hP, hD⟩, hS.F ht⟩) hS.2.2 dX5_step_23
theorem iX5_round_X5 : ∀ w ∈ wsX50, w ∈ wsX5_round := fun _ h => List.mem_cons_of_mem _ (List.mem_append_left _ (List.mem_append_left _ (List.mem_append_left _ (List.mem_append_right _ h))))
set_option maxHeartbeats 4000000 in
set_option maxRecDepth 100000 in
theorem kX5_round (l : Launch) (D : va_G) (cy : Nat → ClassId) (hQ : Nat) (aQ : Nat → Nat) (sdQ : Int64) (aT : Nat → Nat) (aG : Nat → Nat) (bC : Nat) (sC : Nat → Nat) (aC : Nat → Nat → Nat) (sz : Nat) (Q : dk_O) (T : dk_O) (G : dk_O) (C : dk_O) (CB : Nat → dk_O)  (r : Int32) (oT_I : (Nat → Int32)) (oT_1 : (Nat → Int32)) (oT_2 : (Nat → Int32)) (oC_I : (Nat → Int32)) (oC_B : (Nat → dk_O)) (hf : fX5_round Q T G C CB = some (r, oT_I, oT_1, oT_2, oC_I, oC_B)) : dk_MuIA l yX5_round wsX5_round ({ frames := 4, cells := 0, slots := 0, locals := 96 }) D cy [.ref hQ] (wDp cy hQ aQ sdQ Q ++ wSt cy (aQ 3) aT (aQ 1) T ++ wNt cy (aQ 1) aG G ++ wAo (aQ 5) bC C ++ wPo cy bC 14 sC ++ wPl cy sC aC (aQ 1) CB) (fun uu => wDp cy hQ aQ sdQ Q ++ wSt cy (aQ 3) aT (aQ 1) (oT_I, dk_upA (dk_upA T.2 1 oT_1) 2 oT_2) ++ wNt cy (aQ 1) aG G ++ wAo (aQ 5) bC (oC_I, C.2) ++ wPo cy bC 14 uu.1 ++ wPl cy uu.1 uu.2 (aQ 1) oC_B) sz r := by
  refine Met.ofW (cc := cX5_round) (maxL := 1) (ret := (some .int)) (by decide) rfl ?_
  intro p e s m args below meth c s₁ B hml hv
  obtain ⟨rfl, hsz, hP, hK, hD0⟩ := hv
  have hx := B.exec
  have hb := B.bytes
  have hr := B.returns
  have hts := atoms_spec (ws := wsX5_round) B.pre
  have hown : s.vm.findClass RX5 = some m.cls := findClass_of_methodNamed B.named
  have hlocks := B.notSynchronized
  subst hsz
  have hD := hD0.self (sz := s.heap.size)
  generalize hAe : va_A (wDp cy hQ aQ sdQ Q ++ wSt cy (aQ 3) aT (aQ 1) T ++ wNt cy (aQ 1) aG G ++ wAo (aQ 5) bC C ++ wPo cy bC 14 sC ++ wPl cy sC aC (aQ 1) CB) s.heap.size = A at hD ⊢
  have hA : ∀ q : Nat, s.heap.size ≤ q → A q := fun q h => by rw [← hAe]; exact Or.inr h
  have hS : va_S A s.heap s.heap [] := va_S.rf
  have hl := lv_entry ([.ref hQ]) (n := 1) (Nat.le_of_ble_eq_true rfl)
  rw [lg_entry_eq]
  generalize (lg_sl ([.ref hQ]) ++ List.replicate (1 - (lg_sl ([.ref hQ])).length) Slot.unset).toArray = ls at hl ⊢
  have hl : lv_has ls 1 [(0, .ref hQ)] := hl
  unfold fX5_round at hf
  refine lv_aload_n hx hb dX5_round_0 rfl (lv_at hl 0 rfl) ?_
  refine va_get (D := D) (ci := 5) (v := .ref (aQ 3)) (C := RX5) (T := TX5) (N := 10) hx hb hts iX5_round_X5 hown hK.1 hP 0 rfl rfl 3 (by decide) (hts (.fieldLink RX5 31 "DarkPlace" "now" "LDarkPlace$Stand;") (List.mem_of_getElem? (i := 1) rfl)) (fun _ h9 => h9) rfl dX5_round_1 ?_
  obtain ⟨r4, k4, hf⟩ := dk_bind hf
  refine dk_ri (va_runV (As := []) (rest := []) ⟨hx, hb, hml, hown, hts⟩ (kX3_living l D cy (aQ 3) aT (aQ 1) aG T G r4 k4) (cwV 0 hts gX5_round_X3_living rfl rfl rfl (by decide +kernel) ⟨Nat.le_of_ble_eq_true rfl, Nat.le_of_ble_eq_true rfl⟩) (dk_preV hK (hP.sub (ws' := wSt cy (aQ 3) aT (aQ 1) T ++ wNt cy (aQ 1) aG G) [2, 3, 4, 5, 6, 7, 8] rfl) (ci := 3) (q0 := 0) rfl rfl) rfl rfl hl.1 rfl (lv_room (Nat.le_of_ble_eq_true rfl)) dX5_round_4 ⟨Nat.zero_le _, Nat.zero_le _⟩) ?_
  refine dk_ine (tgt := 13) hx hb dX5_round_7 (by decide) hf (fun hf => ?_) (fun hf => ?_)
  · refine lv_aload_n hx hb dX5_round_13 rfl (lv_at hl 0 rfl) ?_
    refine va_get (D := D) (ci := 5) (v := .ref (aQ 5)) (C := RX5) (T := TX5) (N := 10) hx hb hts iX5_round_X5 hown hK.1 hP 0 rfl rfl 5 (by decide) (hts (.fieldLink RX5 41 "DarkPlace" "acts" "LDarkPlace$Acts;") (List.mem_of_getElem? (i := 2) rfl)) (fun _ h9 => h9) rfl dX5_round_14 ?_
    refine lv_aload_n hx hb dX5_round_17 rfl (lv_at hl 0 rfl) ?_
    refine va_get (D := D) (ci := 5) (v := .ref (aQ 3)) (C := RX5) (T := TX5) (N := 10) hx hb hts iX5_round_X5 hown hK.1 hP 0 rfl rfl 3 (by decide) (hts (.fieldLink RX5 31 "DarkPlace" "now" "LDarkPlace$Stand;") (List.mem_of_getElem? (i := 1) rfl)) (fun _ h9 => h9) rfl dX5_round_18 ?_
    obtain ⟨⟨i21_0, g21_1⟩, k21, hf⟩ := dk_bind hf
    dsimp only at hf
    have hPc := hP.part (cx := wAo (aQ 5) bC C ++ wPo cy bC 14 sC ++ wSt cy (aQ 3) aT (aQ 1) T) [9, 10, 2, 3, 4] rfl
    have hDc := hD.part (cx := wAo (aQ 5) bC C ++ wPo cy bC 14 sC ++ wSt cy (aQ 3) aT (aQ 1) T) [9, 10, 2, 3, 4] (by decide) rfl
    have hFc := va_freeP (cx := wAo (aQ 5) bC C ++ wPo cy bC 14 sC ++ wSt cy (aQ 3) aT (aQ 1) T) hD hS hA [9, 10, 2, 3, 4] rfl
    refine va_callv (va_runV (As := [.ref (aQ 3)]) (rest := []) ⟨hx, hb, hml, hown, hts⟩ (kX0_remember l D cy (aQ 5) bC sC aC (aQ 1) (aQ 3) aT (aQ 1) s.heap.size C CB T i21_0 g21_1 k21) (cwV 1 hts gX5_round_X0_remember rfl rfl rfl (by decide +kernel) ⟨Nat.le_of_ble_eq_true rfl, Nat.le_of_ble_eq_true rfl⟩) (dk_premV hK hPc hDc (ci := 0) (q0 := 0) rfl rfl) rfl rfl hl.1 rfl (lv_room (Nat.le_of_ble_eq_true rfl)) dX5_round_21 ⟨Nat.zero_le _, Nat.zero_le _⟩) hS (fun q _ h => hFc q h) hFc (fun u t H1 locs ht hvm hw hB hz1 hk1 hS => ?_)
    obtain ⟨sa21, aa21⟩ := u
    obtain ⟨hP1, hD1⟩ := hB
    rw [ht] at hP1
    obtain ⟨hP, hD⟩ := va_joinP (wr := ([0, 1, 5, 6, 7, 8] : List Nat).filterMap (fun i => (wDp cy hQ aQ sdQ Q ++ wSt cy (aQ 3) aT (aQ 1) T ++ wNt cy (aQ 1) aG G ++ wAo (aQ 5) bC C ++ wPo cy bC 14 sC)[i]?)) (rx := wAo (aQ 5) bC (i21_0, C.2) ++ wPo cy bC 14 sa21 ++ wSt cy (aQ 3) aT (aQ 1) T) hP hD [9, 10, 2, 3, 4] [0, 1, 5, 6, 7, 8] rfl rfl (by decide) (by decide) hk1 hFc hP1 hD1
    generalize H1 = H at hP hS ⊢
    have hP : va_P D vwCl (wDp cy hQ aQ sdQ Q ++ wSt cy (aQ 3) aT (aQ 1) T ++ wNt cy (aQ 1) aG G ++ wAo (aQ 5) bC (i21_0, C.2) ++ wPo cy bC 14 sa21 ++ wPl cy sa21 aa21 (aQ 1) g21_1) H := hP.part (cx := wDp cy hQ aQ sdQ Q ++ wSt cy (aQ 3) aT (aQ 1) T ++ wNt cy (aQ 1) aG G ++ wAo (aQ 5) bC (i21_0, C.2) ++ wPo cy bC 14 sa21) [0, 1, 8, 9, 10, 2, 3, 4, 5, 6, 7] rfl
    have hD : va_D A (wDp cy hQ aQ sdQ Q ++ wSt cy (aQ 3) aT (aQ 1) T ++ wNt cy (aQ 1) aG G ++ wAo (aQ 5) bC (i21_0, C.2) ++ wPo cy bC 14 sa21 ++ wPl cy sa21 aa21 (aQ 1) g21_1) := hD.part (cx := wDp cy hQ aQ sdQ Q ++ wSt cy (aQ 3) aT (aQ 1) T ++ wNt cy (aQ 1) aG G ++ wAo (aQ 5) bC (i21_0, C.2) ++ wPo cy bC 14 sa21) [0, 1, 8, 9, 10, 2, 3, 4, 5, 6, 7] (by decide) rfl
    refine lv_aload_n hx hb dX5_round_24 rfl (lv_at hl 0 rfl) ?_
    refine va_get (D := D) (ci := 5) (v := .ref (aQ 3)) (C := RX5) (T := TX5) (N := 10) hx hb hts iX5_round_X5 hown hK.1 hP 0 rfl rfl 3 (by decide) (hts (.fieldLink RX5 31 "DarkPlace" "now" "LDarkPlace$Stand;") (List.mem_of_getElem? (i := 1) rfl)) (fun _ h9 => h9) rfl dX5_round_25 ?_
    refine lv_bipush (v := 15) hx hb dX5_round_28 (by decide) ?_
    obtain ⟨⟨r30, i30_0, g30_1, g30_2⟩, k30, hf⟩ := dk_bind hf
    dsimp only at hf
    have hPc := hP.sub (ws' := wSt cy (aQ 3) aT (aQ 1) T ++ wNt cy (aQ 1) aG G) [2, 3, 4, 5, 6, 7, 8] rfl
    have hDc := hD.sub (ws' := wSt cy (aQ 3) aT (aQ 1) T ++ wNt cy (aQ 1) aG G) [2, 3, 4, 5, 6, 7, 8] (by decide) rfl
    have hFc := va_free (wc := wSt cy (aQ 3) aT (aQ 1) T ++ wNt cy (aQ 1) aG G) hD hS hA [2, 3, 4, 5, 6, 7, 8] rfl
    refine va_calli (va_runV (As := [.int 15]) (rest := []) ⟨hx, hb, hml, hown, hts⟩ (kX3_playRound l D cy (aQ 3) aT (aQ 1) aG H.size T G 15 r30 i30_0 g30_1 g30_2 k30) (cwV 1 hts gX5_round_X3_playRound rfl rfl rfl (by decide +kernel) ⟨Nat.le_of_ble_eq_true rfl, Nat.le_of_ble_eq_true rfl⟩) (dk_premV hK hPc hDc (ci := 3) (q0 := 0) rfl rfl) rfl rfl hl.1 rfl (lv_room (Nat.le_of_ble_eq_true rfl)) dX5_round_30 ⟨Nat.zero_le _, Nat.zero_le _⟩) hS (fun q _ h => hFc q h) hFc (fun xr30 u t H1 locs ht hvm hw hB hz1 hk1 hS => ?_)
    obtain ⟨hP1, hD1⟩ := hB
    rw [ht] at hP1
    rw [hw]
    obtain ⟨hP, hD⟩ := va_joinQ (wr := ([0, 1, 9, 10] : List Nat).filterMap (fun i => (wDp cy hQ aQ sdQ Q ++ wSt cy (aQ 3) aT (aQ 1) T ++ wNt cy (aQ 1) aG G ++ wAo (aQ 5) bC (i21_0, C.2) ++ wPo cy bC 14 sa21)[i]?)) (w1 := wSt cy (aQ 3) aT (aQ 1) (i30_0, dk_upA (dk_upA T.2 1 g30_1) 2 g30_2) ++ wNt cy (aQ 1) aG G) (pl := wPl cy sa21 aa21 (aQ 1) g21_1) hP hD [2, 3, 4, 5, 6, 7, 8] [0, 1, 9, 10] rfl rfl (by decide) (by decide) hk1 hFc hP1 hD1
    generalize H1 = H at hP hS ⊢
    have hP : va_P D vwCl (wDp cy hQ aQ sdQ Q ++ wSt cy (aQ 3) aT (aQ 1) (i30_0, dk_upA (dk_upA T.2 1 g30_1) 2 g30_2) ++ wNt cy (aQ 1) aG G ++ wAo (aQ 5) bC (i21_0, C.2) ++ wPo cy bC 14 sa21 ++ wPl cy sa21 aa21 (aQ 1) g21_1) H := hP.part (cx := wDp cy hQ aQ sdQ Q ++ wSt cy (aQ 3) aT (aQ 1) (i30_0, dk_upA (dk_upA T.2 1 g30_1) 2 g30_2) ++ wNt cy (aQ 1) aG G ++ wAo (aQ 5) bC (i21_0, C.2) ++ wPo cy bC 14 sa21) [0, 1, 4, 5, 6, 7, 8, 9, 10, 2, 3] rfl
    have hD : va_D A (wDp cy hQ aQ sdQ Q ++ wSt cy (aQ 3) aT (aQ 1) (i30_0, dk_upA (dk_upA T.2 1 g30_1) 2 g30_2) ++ wNt cy (aQ 1) aG G ++ wAo (aQ 5) bC (i21_0, C.2) ++ wPo cy bC 14 sa21 ++ wPl cy sa21 aa21 (aQ 1) g21_1) := hD.part (cx := wDp cy hQ aQ sdQ Q ++ wSt cy (aQ 3) aT (aQ 1) (i30_0, dk_upA (dk_upA T.2 1 g30_1) 2 g30_2) ++ wNt cy (aQ 1) aG G ++ wAo (aQ 5) bC (i21_0, C.2) ++ wPo cy bC 14 sa21) [0, 1, 4, 5, 6, 7, 8, 9, 10, 2, 3] (by decide) rfl
    have e := Option.some.inj hf
    simp only [Prod.mk.injEq] at e
    obtain ⟨e0, e1, e2, e3, e4, e5⟩ := e
    subst e1
    subst e2
    subst e3
    subst e4
    subst e5
    exact W.iret (v := r30) hx hb hr (fun t ht hW => ⟨⟨r30, (sa21, aa21), rfl, e0, by rw [ht]; exact hP, hD⟩, hS.F ht⟩) hS.2.2 dX5_round_33
  · refine lv_bipush (v := (-3)) hx hb dX5_round_10 (by decide) ?_
    have e := Option.some.inj hf
    simp only [Prod.mk.injEq] at e
    obtain ⟨e0, e1, e2, e3, e4, e5⟩ := e
    subst e1
    subst e2
    subst e3
    subst e4
    subst e5
    exact W.iret (v := (-3)) hx hb hr (fun t ht hW => ⟨⟨(-3), (sC, aC), rfl, e0, by rw [ht]; exact hP, hD⟩, hS.F ht⟩) hS.2.2 dX5_round_12
theorem iX5_join_X3 : ∀ w ∈ wsX30, w ∈ wsX5_join := fun _ h => List.mem_cons_of_mem _ (List.mem_append_left _ (List.mem_append_left _ (List.mem_append_right _ h)))
theorem iX5_join_X5 : ∀ w ∈ wsX50, w ∈ wsX5_join := fun _ h => List.mem_cons_of_mem _ (List.mem_append_left _ (List.mem_append_left _ (List.mem_append_left _ (List.mem_append_right _ h))))
set_option maxHeartbeats 4000000 in
set_option maxRecDepth 100000 in
theorem kX5_join (l : Launch) (D : va_G) (cy : Nat → ClassId) (hQ : Nat) (aQ : Nat → Nat) (sdQ : Int64) (aT : Nat → Nat) (aG : Nat → Nat) (bC : Nat) (sC : Nat → Nat) (aC : Nat → Nat → Nat) (sz : Nat) (Q : dk_O) (T : dk_O) (G : dk_O) (C : dk_O) (CB : Nat → dk_O)  (r : Int32) (oT_I : (Nat → Int32)) (oT_1 : (Nat → Int32)) (oT_2 : (Nat → Int32)) (oC_I : (Nat → Int32)) (oC_B : (Nat → dk_O)) (hf : fX5_join Q T G C CB = some (r, oT_I, oT_1, oT_2, oC_I, oC_B)) : dk_MuIA l yX5_join wsX5_join ({ frames := 2, cells := 0, slots := 0, locals := 43 }) D cy [.ref hQ] (wDp cy hQ aQ sdQ Q ++ wSt cy (aQ 3) aT (aQ 1) T ++ wNt cy (aQ 1) aG G ++ wAo (aQ 5) bC C ++ wPo cy bC 14 sC ++ wPl cy sC aC (aQ 1) CB) (fun uu => wDp cy hQ aQ sdQ Q ++ wSt cy (aQ 3) aT (aQ 1) (oT_I, dk_upA (dk_upA T.2 1 oT_1) 2 oT_2) ++ wNt cy (aQ 1) aG G ++ wAo (aQ 5) bC (oC_I, C.2) ++ wPo cy bC 14 uu.1 ++ wPl cy uu.1 uu.2 (aQ 1) oC_B) sz r := by
  refine Met.ofW (cc := cX5_join) (maxL := 1) (ret := (some .int)) (by decide) rfl ?_
  intro p e s m args below meth c s₁ B hml hv
  obtain ⟨rfl, hsz, hP, hK, hD0⟩ := hv
  have hx := B.exec
  have hb := B.bytes
  have hr := B.returns
  have hts := atoms_spec (ws := wsX5_join) B.pre
  have hown : s.vm.findClass RX5 = some m.cls := findClass_of_methodNamed B.named
  have hlocks := B.notSynchronized
  subst hsz
  have hD := hD0.self (sz := s.heap.size)
  generalize hAe : va_A (wDp cy hQ aQ sdQ Q ++ wSt cy (aQ 3) aT (aQ 1) T ++ wNt cy (aQ 1) aG G ++ wAo (aQ 5) bC C ++ wPo cy bC 14 sC ++ wPl cy sC aC (aQ 1) CB) s.heap.size = A at hD ⊢
  have hA : ∀ q : Nat, s.heap.size ≤ q → A q := fun q h => by rw [← hAe]; exact Or.inr h
  have hS : va_S A s.heap s.heap [] := va_S.rf
  have hl := lv_entry ([.ref hQ]) (n := 1) (Nat.le_of_ble_eq_true rfl)
  rw [lg_entry_eq]
  generalize (lg_sl ([.ref hQ]) ++ List.replicate (1 - (lg_sl ([.ref hQ])).length) Slot.unset).toArray = ls at hl ⊢
  have hl : lv_has ls 1 [(0, .ref hQ)] := hl
  unfold fX5_join at hf
  refine lv_aload_n hx hb dX5_join_0 rfl (lv_at hl 0 rfl) ?_
  refine va_get (D := D) (ci := 5) (v := .ref (aQ 3)) (C := RX5) (T := TX5) (N := 10) hx hb hts iX5_join_X5 hown hK.1 hP 0 rfl rfl 3 (by decide) (hts (.fieldLink RX5 31 "DarkPlace" "now" "LDarkPlace$Stand;") (List.mem_of_getElem? (i := 1) rfl)) (fun _ h9 => h9) rfl dX5_join_1 ?_
  refine va_getN (D := D) (ci := 3) (v := .int (T.1 3)) (C := RX3) (T := TX3) (N := 9) hx hb hts iX5_join_X3 hown hK.1 hP 2 rfl rfl 3 (by decide) (va_Nw.use rfl (hK.2 (.fieldLinkNest "DarkPlace" 147 "DarkPlace$Stand" "searchers" "I" "DarkPlace") (List.mem_of_getElem? (i := 10) rfl))) (fun _ h9 => h9) rfl dX5_join_4 ?_
  refine lv_iconst (v := 4) hx hb dX5_join_7 (by decide) ?_
  refine dk_clt (tgt := 14) hx hb dX5_join_8 (by decide) hf (fun hf => ?_) (fun hf => ?_)
  · refine lv_aload_n hx hb dX5_join_14 rfl (lv_at hl 0 rfl) ?_
    refine va_get (D := D) (ci := 5) (v := .ref (aQ 5)) (C := RX5) (T := TX5) (N := 10) hx hb hts iX5_join_X5 hown hK.1 hP 0 rfl rfl 5 (by decide) (hts (.fieldLink RX5 41 "DarkPlace" "acts" "LDarkPlace$Acts;") (List.mem_of_getElem? (i := 2) rfl)) (fun _ h9 => h9) rfl dX5_join_15 ?_
    refine lv_aload_n hx hb dX5_join_18 rfl (lv_at hl 0 rfl) ?_
    refine va_get (D := D) (ci := 5) (v := .ref (aQ 3)) (C := RX5) (T := TX5) (N := 10) hx hb hts iX5_join_X5 hown hK.1 hP 0 rfl rfl 3 (by decide) (hts (.fieldLink RX5 31 "DarkPlace" "now" "LDarkPlace$Stand;") (List.mem_of_getElem? (i := 1) rfl)) (fun _ h9 => h9) rfl dX5_join_19 ?_
    obtain ⟨⟨i22_0, g22_1⟩, k22, hf⟩ := dk_bind hf
    dsimp only at hf
    have hPc := hP.part (cx := wAo (aQ 5) bC C ++ wPo cy bC 14 sC ++ wSt cy (aQ 3) aT (aQ 1) T) [9, 10, 2, 3, 4] rfl
    have hDc := hD.part (cx := wAo (aQ 5) bC C ++ wPo cy bC 14 sC ++ wSt cy (aQ 3) aT (aQ 1) T) [9, 10, 2, 3, 4] (by decide) rfl
    have hFc := va_freeP (cx := wAo (aQ 5) bC C ++ wPo cy bC 14 sC ++ wSt cy (aQ 3) aT (aQ 1) T) hD hS hA [9, 10, 2, 3, 4] rfl
    refine va_callv (va_runV (As := [.ref (aQ 3)]) (rest := []) ⟨hx, hb, hml, hown, hts⟩ (kX0_remember l D cy (aQ 5) bC sC aC (aQ 1) (aQ 3) aT (aQ 1) s.heap.size C CB T i22_0 g22_1 k22) (cwV 1 hts gX5_join_X0_remember rfl rfl rfl (by decide +kernel) ⟨Nat.le_of_ble_eq_true rfl, Nat.le_of_ble_eq_true rfl⟩) (dk_premV hK hPc hDc (ci := 0) (q0 := 0) rfl rfl) rfl rfl hl.1 rfl (lv_room (Nat.le_of_ble_eq_true rfl)) dX5_join_22 ⟨Nat.zero_le _, Nat.zero_le _⟩) hS (fun q _ h => hFc q h) hFc (fun u t H1 locs ht hvm hw hB hz1 hk1 hS => ?_)
    obtain ⟨sa22, aa22⟩ := u
    obtain ⟨hP1, hD1⟩ := hB
    rw [ht] at hP1
    obtain ⟨hP, hD⟩ := va_joinP (wr := ([0, 1, 5, 6, 7, 8] : List Nat).filterMap (fun i => (wDp cy hQ aQ sdQ Q ++ wSt cy (aQ 3) aT (aQ 1) T ++ wNt cy (aQ 1) aG G ++ wAo (aQ 5) bC C ++ wPo cy bC 14 sC)[i]?)) (rx := wAo (aQ 5) bC (i22_0, C.2) ++ wPo cy bC 14 sa22 ++ wSt cy (aQ 3) aT (aQ 1) T) hP hD [9, 10, 2, 3, 4] [0, 1, 5, 6, 7, 8] rfl rfl (by decide) (by decide) hk1 hFc hP1 hD1
    generalize H1 = H at hP hS ⊢
    have hP : va_P D vwCl (wDp cy hQ aQ sdQ Q ++ wSt cy (aQ 3) aT (aQ 1) T ++ wNt cy (aQ 1) aG G ++ wAo (aQ 5) bC (i22_0, C.2) ++ wPo cy bC 14 sa22 ++ wPl cy sa22 aa22 (aQ 1) g22_1) H := hP.part (cx := wDp cy hQ aQ sdQ Q ++ wSt cy (aQ 3) aT (aQ 1) T ++ wNt cy (aQ 1) aG G ++ wAo (aQ 5) bC (i22_0, C.2) ++ wPo cy bC 14 sa22) [0, 1, 8, 9, 10, 2, 3, 4, 5, 6, 7] rfl
    have hD : va_D A (wDp cy hQ aQ sdQ Q ++ wSt cy (aQ 3) aT (aQ 1) T ++ wNt cy (aQ 1) aG G ++ wAo (aQ 5) bC (i22_0, C.2) ++ wPo cy bC 14 sa22 ++ wPl cy sa22 aa22 (aQ 1) g22_1) := hD.part (cx := wDp cy hQ aQ sdQ Q ++ wSt cy (aQ 3) aT (aQ 1) T ++ wNt cy (aQ 1) aG G ++ wAo (aQ 5) bC (i22_0, C.2) ++ wPo cy bC 14 sa22) [0, 1, 8, 9, 10, 2, 3, 4, 5, 6, 7] (by decide) rfl
    refine lv_aload_n hx hb dX5_join_25 rfl (lv_at hl 0 rfl) ?_
    refine va_get (D := D) (ci := 5) (v := .ref (aQ 3)) (C := RX5) (T := TX5) (N := 10) hx hb hts iX5_join_X5 hown hK.1 hP 0 rfl rfl 3 (by decide) (hts (.fieldLink RX5 31 "DarkPlace" "now" "LDarkPlace$Stand;") (List.mem_of_getElem? (i := 1) rfl)) (fun _ h9 => h9) rfl dX5_join_26 ?_
    obtain ⟨⟨r29, i29_0, g29_1, g29_2⟩, k29, hf⟩ := dk_bind hf
    dsimp only at hf
    have hPc := hP.sub (ws' := wSt cy (aQ 3) aT (aQ 1) T ++ wNt cy (aQ 1) aG G) [2, 3, 4, 5, 6, 7, 8] rfl
    have hDc := hD.sub (ws' := wSt cy (aQ 3) aT (aQ 1) T ++ wNt cy (aQ 1) aG G) [2, 3, 4, 5, 6, 7, 8] (by decide) rfl
    have hFc := va_free (wc := wSt cy (aQ 3) aT (aQ 1) T ++ wNt cy (aQ 1) aG G) hD hS hA [2, 3, 4, 5, 6, 7, 8] rfl
    refine va_calli (va_runV (As := []) (rest := []) ⟨hx, hb, hml, hown, hts⟩ (kX3_addSearcher l D cy (aQ 3) aT (aQ 1) aG H.size T G r29 i29_0 g29_1 g29_2 k29) (cwV 0 hts gX5_join_X3_addSearcher rfl rfl rfl (by decide +kernel) ⟨Nat.le_of_ble_eq_true rfl, Nat.le_of_ble_eq_true rfl⟩) (dk_premV hK hPc hDc (ci := 3) (q0 := 0) rfl rfl) rfl rfl hl.1 rfl (lv_room (Nat.le_of_ble_eq_true rfl)) dX5_join_29 ⟨Nat.zero_le _, Nat.zero_le _⟩) hS (fun q _ h => hFc q h) hFc (fun xr29 u t H1 locs ht hvm hw hB hz1 hk1 hS => ?_)
    obtain ⟨hP1, hD1⟩ := hB
    rw [ht] at hP1
    rw [hw]
    obtain ⟨hP, hD⟩ := va_joinQ (wr := ([0, 1, 9, 10] : List Nat).filterMap (fun i => (wDp cy hQ aQ sdQ Q ++ wSt cy (aQ 3) aT (aQ 1) T ++ wNt cy (aQ 1) aG G ++ wAo (aQ 5) bC (i22_0, C.2) ++ wPo cy bC 14 sa22)[i]?)) (w1 := wSt cy (aQ 3) aT (aQ 1) (i29_0, dk_upA (dk_upA T.2 1 g29_1) 2 g29_2) ++ wNt cy (aQ 1) aG G) (pl := wPl cy sa22 aa22 (aQ 1) g22_1) hP hD [2, 3, 4, 5, 6, 7, 8] [0, 1, 9, 10] rfl rfl (by decide) (by decide) hk1 hFc hP1 hD1
    generalize H1 = H at hP hS ⊢
    have hP : va_P D vwCl (wDp cy hQ aQ sdQ Q ++ wSt cy (aQ 3) aT (aQ 1) (i29_0, dk_upA (dk_upA T.2 1 g29_1) 2 g29_2) ++ wNt cy (aQ 1) aG G ++ wAo (aQ 5) bC (i22_0, C.2) ++ wPo cy bC 14 sa22 ++ wPl cy sa22 aa22 (aQ 1) g22_1) H := hP.part (cx := wDp cy hQ aQ sdQ Q ++ wSt cy (aQ 3) aT (aQ 1) (i29_0, dk_upA (dk_upA T.2 1 g29_1) 2 g29_2) ++ wNt cy (aQ 1) aG G ++ wAo (aQ 5) bC (i22_0, C.2) ++ wPo cy bC 14 sa22) [0, 1, 4, 5, 6, 7, 8, 9, 10, 2, 3] rfl
    have hD : va_D A (wDp cy hQ aQ sdQ Q ++ wSt cy (aQ 3) aT (aQ 1) (i29_0, dk_upA (dk_upA T.2 1 g29_1) 2 g29_2) ++ wNt cy (aQ 1) aG G ++ wAo (aQ 5) bC (i22_0, C.2) ++ wPo cy bC 14 sa22 ++ wPl cy sa22 aa22 (aQ 1) g22_1) := hD.part (cx := wDp cy hQ aQ sdQ Q ++ wSt cy (aQ 3) aT (aQ 1) (i29_0, dk_upA (dk_upA T.2 1 g29_1) 2 g29_2) ++ wNt cy (aQ 1) aG G ++ wAo (aQ 5) bC (i22_0, C.2) ++ wPo cy bC 14 sa22) [0, 1, 4, 5, 6, 7, 8, 9, 10, 2, 3] (by decide) rfl
    have e := Option.some.inj hf
    simp only [Prod.mk.injEq] at e
    obtain ⟨e0, e1, e2, e3, e4, e5⟩ := e
    subst e1
    subst e2
    subst e3
    subst e4
    subst e5
    exact W.iret (v := r29) hx hb hr (fun t ht hW => ⟨⟨r29, (sa22, aa22), rfl, e0, by rw [ht]; exact hP, hD⟩, hS.F ht⟩) hS.2.2 dX5_join_32
  · refine lv_bipush (v := (-4)) hx hb dX5_join_11 (by decide) ?_
    have e := Option.some.inj hf
    simp only [Prod.mk.injEq] at e
    obtain ⟨e0, e1, e2, e3, e4, e5⟩ := e
    subst e1
    subst e2
    subst e3
    subst e4
    subst e5
    exact W.iret (v := (-4)) hx hb hr (fun t ht hW => ⟨⟨(-4), (sC, aC), rfl, e0, by rw [ht]; exact hP, hD⟩, hS.F ht⟩) hS.2.2 dX5_join_13
theorem iX5_hide_X3 : ∀ w ∈ wsX30, w ∈ wsX5_hide := fun _ h => List.mem_cons_of_mem _ (List.mem_append_left _ (List.mem_append_left _ (List.mem_append_right _ h)))
theorem iX5_hide_X5 : ∀ w ∈ wsX50, w ∈ wsX5_hide := fun _ h => List.mem_cons_of_mem _ (List.mem_append_left _ (List.mem_append_left _ (List.mem_append_left _ (List.mem_append_right _ h))))
set_option maxHeartbeats 4000000 in
set_option maxRecDepth 100000 in
theorem kX5_hide (l : Launch) (D : va_G) (cy : Nat → ClassId) (hQ : Nat) (aQ : Nat → Nat) (sdQ : Int64) (aT : Nat → Nat) (aG : Nat → Nat) (bC : Nat) (sC : Nat → Nat) (aC : Nat → Nat → Nat) (sz : Nat) (Q : dk_O) (T : dk_O) (G : dk_O) (C : dk_O) (CB : Nat → dk_O) (v1 : Int32) (r : Int32) (oT_I : (Nat → Int32)) (oC_I : (Nat → Int32)) (oC_B : (Nat → dk_O)) (hf : fX5_hide Q T G C CB v1 = some (r, oT_I, oC_I, oC_B)) : dk_MuIA l yX5_hide wsX5_hide ({ frames := 2, cells := 0, slots := 0, locals := 43 }) D cy [.ref hQ, .int v1] (wDp cy hQ aQ sdQ Q ++ wSt cy (aQ 3) aT (aQ 1) T ++ wNt cy (aQ 1) aG G ++ wAo (aQ 5) bC C ++ wPo cy bC 14 sC ++ wPl cy sC aC (aQ 1) CB) (fun uu => wDp cy hQ aQ sdQ Q ++ wSt cy (aQ 3) aT (aQ 1) (oT_I, T.2) ++ wNt cy (aQ 1) aG G ++ wAo (aQ 5) bC (oC_I, C.2) ++ wPo cy bC 14 uu.1 ++ wPl cy uu.1 uu.2 (aQ 1) oC_B) sz r := by
  refine Met.ofW (cc := cX5_hide) (maxL := 3) (ret := (some .int)) (by decide) rfl ?_
  intro p e s m args below meth c s₁ B hml hv
  obtain ⟨rfl, hsz, hP, hK, hD0⟩ := hv
  have hx := B.exec
  have hb := B.bytes
  have hr := B.returns
  have hts := atoms_spec (ws := wsX5_hide) B.pre
  have hown : s.vm.findClass RX5 = some m.cls := findClass_of_methodNamed B.named
  have hlocks := B.notSynchronized
  subst hsz
  have hD := hD0.self (sz := s.heap.size)
  generalize hAe : va_A (wDp cy hQ aQ sdQ Q ++ wSt cy (aQ 3) aT (aQ 1) T ++ wNt cy (aQ 1) aG G ++ wAo (aQ 5) bC C ++ wPo cy bC 14 sC ++ wPl cy sC aC (aQ 1) CB) s.heap.size = A at hD ⊢
  have hA : ∀ q : Nat, s.heap.size ≤ q → A q := fun q h => by rw [← hAe]; exact Or.inr h
  have hS : va_S A s.heap s.heap [] := va_S.rf
  have hl := lv_entry ([.ref hQ, .int v1]) (n := 3) (Nat.le_of_ble_eq_true rfl)
  rw [lg_entry_eq]
  generalize (lg_sl ([.ref hQ, .int v1]) ++ List.replicate (3 - (lg_sl ([.ref hQ, .int v1])).length) Slot.unset).toArray = ls at hl ⊢
  have hl : lv_has ls 3 [(0, .ref hQ), (1, .int v1)] := hl
  unfold fX5_hide at hf
  refine lv_aload_n hx hb dX5_hide_0 rfl (lv_at hl 0 rfl) ?_
  refine va_get (D := D) (ci := 5) (v := .ref (aQ 1)) (C := RX5) (T := TX5) (N := 10) hx hb hts iX5_hide_X5 hown hK.1 hP 0 rfl rfl 1 (by decide) (hts (.fieldLink RX5 19 "DarkPlace" "ground" "LDarkPlace$Net;") (List.mem_of_getElem? (i := 1) rfl)) (fun _ h9 => h9) rfl dX5_hide_1 ?_
  refine lv_iload_n hx hb dX5_hide_4 rfl (lv_at hl 1 rfl) ?_
  obtain ⟨r5, k5, hf⟩ := dk_bind hf
  refine dk_ri (va_runV (As := [.int v1]) (rest := []) ⟨hx, hb, hml, hown, hts⟩ (kX1_isPlace l D cy (aQ 1) aG G v1 r5 k5) (cwV 1 hts gX5_hide_X1_isPlace rfl rfl rfl (by decide +kernel) ⟨Nat.le_of_ble_eq_true rfl, Nat.le_of_ble_eq_true rfl⟩) (dk_preV hK (hP.sub (ws' := wNt cy (aQ 1) aG G) [5, 6, 7, 8] rfl) (ci := 1) (q0 := 0) rfl rfl) rfl rfl hl.1 rfl (lv_room (Nat.le_of_ble_eq_true rfl)) dX5_hide_5 ⟨Nat.zero_le _, Nat.zero_le _⟩) ?_
  refine dk_ine (tgt := 13) hx hb dX5_hide_8 (by decide) hf (fun hf => ?_) (fun hf => ?_)
  · refine lv_aload_n hx hb dX5_hide_13 rfl (lv_at hl 0 rfl) ?_
    refine va_get (D := D) (ci := 5) (v := .ref (aQ 3)) (C := RX5) (T := TX5) (N := 10) hx hb hts iX5_hide_X5 hown hK.1 hP 0 rfl rfl 3 (by decide) (hts (.fieldLink RX5 31 "DarkPlace" "now" "LDarkPlace$Stand;") (List.mem_of_getElem? (i := 2) rfl)) (fun _ h9 => h9) rfl dX5_hide_14 ?_
    refine va_getN (D := D) (ci := 3) (v := .int (T.1 4)) (C := RX3) (T := TX3) (N := 9) hx hb hts iX5_hide_X3 hown hK.1 hP 2 rfl rfl 4 (by decide) (va_Nw.use rfl (hK.2 (.fieldLinkNest "DarkPlace" 154 "DarkPlace$Stand" "hole" "I" "DarkPlace") (List.mem_of_getElem? (i := 11) rfl))) (fun _ h9 => h9) rfl dX5_hide_17 ?_
    refine lv_istore_n (lv' := [(2, .int (T.1 4)), (0, .ref hQ), (1, .int v1)]) hx hb dX5_hide_20 rfl hl (by decide) rfl (fun ls hl => ?_)
    refine lv_iload_n hx hb dX5_hide_21 rfl (lv_at hl 2 rfl) ?_
    refine lv_iload_n hx hb dX5_hide_22 rfl (lv_at hl 0 rfl) ?_
    refine dk_ceq (tgt := 40) hx hb dX5_hide_23 (by decide) hf (fun hf => ?_) (fun hf => ?_)
    · refine lv_bipush (v := (-3)) hx hb dX5_hide_40 (by decide) ?_
      have e := Option.some.inj hf
      simp only [Prod.mk.injEq] at e
      obtain ⟨e0, e1, e2, e3⟩ := e
      subst e1
      subst e2
      subst e3
      exact W.iret (v := (-3)) hx hb hr (fun t ht hW => ⟨⟨(-3), (sC, aC), rfl, e0, by rw [ht]; exact hP, hD⟩, hS.F ht⟩) hS.2.2 dX5_hide_42
    · refine lv_aload_n hx hb dX5_hide_26 rfl (lv_at hl 1 rfl) ?_
      refine va_get (D := D) (ci := 5) (v := .ref (aQ 3)) (C := RX5) (T := TX5) (N := 10) hx hb hts iX5_hide_X5 hown hK.1 hP 0 rfl rfl 3 (by decide) (hts (.fieldLink RX5 31 "DarkPlace" "now" "LDarkPlace$Stand;") (List.mem_of_getElem? (i := 2) rfl)) (fun _ h9 => h9) rfl dX5_hide_27 ?_
      obtain ⟨r30, k30, hf⟩ := dk_bind hf
      refine dk_ri (va_runV (As := []) (rest := []) ⟨hx, hb, hml, hown, hts⟩ (kX3_fated l D cy (aQ 3) aT (aQ 1) aG T G r30 k30) (cwV 0 hts gX5_hide_X3_fated rfl rfl rfl (by decide +kernel) ⟨Nat.le_of_ble_eq_true rfl, Nat.le_of_ble_eq_true rfl⟩) (dk_preV hK (hP.sub (ws' := wSt cy (aQ 3) aT (aQ 1) T ++ wNt cy (aQ 1) aG G) [2, 3, 4, 5, 6, 7, 8] rfl) (ci := 3) (q0 := 0) rfl rfl) rfl rfl hl.1 rfl (lv_room (Nat.le_of_ble_eq_true rfl)) dX5_hide_30 ⟨Nat.zero_le _, Nat.zero_le _⟩) ?_
      refine lv_iload_n hx hb dX5_hide_33 rfl (lv_at hl 2 rfl) ?_
      obtain ⟨r34, k34, hf⟩ := dk_bind hf
      refine dk_ri (va_runS (As := [.int r30, .int v1]) (rest := []) ⟨hx, hb, hml, hown, hts⟩ (kX5_holds l D cy r30 v1 r34 k34) (va_cwS 2 hts gX5_hide_X5_holds rfl rfl rfl (by decide +kernel) ⟨Nat.le_of_ble_eq_true rfl, Nat.le_of_ble_eq_true rfl⟩) (dk_preS hK (hP.sub (ws' := []) [] rfl)) rfl rfl hl.1 rfl (lv_room (Nat.le_of_ble_eq_true rfl)) dX5_hide_34 ⟨Nat.zero_le _, Nat.zero_le _⟩) ?_
      refine dk_ine (tgt := 43) hx hb dX5_hide_37 (by decide) hf (fun hf => ?_) (fun hf => ?_)
      · refine lv_aload_n hx hb dX5_hide_43 rfl (lv_at hl 1 rfl) ?_
        refine va_get (D := D) (ci := 5) (v := .ref (aQ 5)) (C := RX5) (T := TX5) (N := 10) hx hb hts iX5_hide_X5 hown hK.1 hP 0 rfl rfl 5 (by decide) (hts (.fieldLink RX5 41 "DarkPlace" "acts" "LDarkPlace$Acts;") (List.mem_of_getElem? (i := 3) rfl)) (fun _ h9 => h9) rfl dX5_hide_44 ?_
        refine lv_aload_n hx hb dX5_hide_47 rfl (lv_at hl 1 rfl) ?_
        refine va_get (D := D) (ci := 5) (v := .ref (aQ 3)) (C := RX5) (T := TX5) (N := 10) hx hb hts iX5_hide_X5 hown hK.1 hP 0 rfl rfl 3 (by decide) (hts (.fieldLink RX5 31 "DarkPlace" "now" "LDarkPlace$Stand;") (List.mem_of_getElem? (i := 2) rfl)) (fun _ h9 => h9) rfl dX5_hide_48 ?_
        obtain ⟨⟨i51_0, g51_1⟩, k51, hf⟩ := dk_bind hf
        dsimp only at hf
        have hPc := hP.part (cx := wAo (aQ 5) bC C ++ wPo cy bC 14 sC ++ wSt cy (aQ 3) aT (aQ 1) T) [9, 10, 2, 3, 4] rfl
        have hDc := hD.part (cx := wAo (aQ 5) bC C ++ wPo cy bC 14 sC ++ wSt cy (aQ 3) aT (aQ 1) T) [9, 10, 2, 3, 4] (by decide) rfl
        have hFc := va_freeP (cx := wAo (aQ 5) bC C ++ wPo cy bC 14 sC ++ wSt cy (aQ 3) aT (aQ 1) T) hD hS hA [9, 10, 2, 3, 4] rfl
        refine va_callv (va_runV (As := [.ref (aQ 3)]) (rest := []) ⟨hx, hb, hml, hown, hts⟩ (kX0_remember l D cy (aQ 5) bC sC aC (aQ 1) (aQ 3) aT (aQ 1) s.heap.size C CB T i51_0 g51_1 k51) (cwV 1 hts gX5_hide_X0_remember rfl rfl rfl (by decide +kernel) ⟨Nat.le_of_ble_eq_true rfl, Nat.le_of_ble_eq_true rfl⟩) (dk_premV hK hPc hDc (ci := 0) (q0 := 0) rfl rfl) rfl rfl hl.1 rfl (lv_room (Nat.le_of_ble_eq_true rfl)) dX5_hide_51 ⟨Nat.zero_le _, Nat.zero_le _⟩) hS (fun q _ h => hFc q h) hFc (fun u t H1 locs ht hvm hw hB hz1 hk1 hS => ?_)
        obtain ⟨sa51, aa51⟩ := u
        obtain ⟨hP1, hD1⟩ := hB
        rw [ht] at hP1
        obtain ⟨hP, hD⟩ := va_joinP (wr := ([0, 1, 5, 6, 7, 8] : List Nat).filterMap (fun i => (wDp cy hQ aQ sdQ Q ++ wSt cy (aQ 3) aT (aQ 1) T ++ wNt cy (aQ 1) aG G ++ wAo (aQ 5) bC C ++ wPo cy bC 14 sC)[i]?)) (rx := wAo (aQ 5) bC (i51_0, C.2) ++ wPo cy bC 14 sa51 ++ wSt cy (aQ 3) aT (aQ 1) T) hP hD [9, 10, 2, 3, 4] [0, 1, 5, 6, 7, 8] rfl rfl (by decide) (by decide) hk1 hFc hP1 hD1
        generalize H1 = H at hP hS ⊢
        have hP : va_P D vwCl (wDp cy hQ aQ sdQ Q ++ wSt cy (aQ 3) aT (aQ 1) T ++ wNt cy (aQ 1) aG G ++ wAo (aQ 5) bC (i51_0, C.2) ++ wPo cy bC 14 sa51 ++ wPl cy sa51 aa51 (aQ 1) g51_1) H := hP.part (cx := wDp cy hQ aQ sdQ Q ++ wSt cy (aQ 3) aT (aQ 1) T ++ wNt cy (aQ 1) aG G ++ wAo (aQ 5) bC (i51_0, C.2) ++ wPo cy bC 14 sa51) [0, 1, 8, 9, 10, 2, 3, 4, 5, 6, 7] rfl
        have hD : va_D A (wDp cy hQ aQ sdQ Q ++ wSt cy (aQ 3) aT (aQ 1) T ++ wNt cy (aQ 1) aG G ++ wAo (aQ 5) bC (i51_0, C.2) ++ wPo cy bC 14 sa51 ++ wPl cy sa51 aa51 (aQ 1) g51_1) := hD.part (cx := wDp cy hQ aQ sdQ Q ++ wSt cy (aQ 3) aT (aQ 1) T ++ wNt cy (aQ 1) aG G ++ wAo (aQ 5) bC (i51_0, C.2) ++ wPo cy bC 14 sa51) [0, 1, 8, 9, 10, 2, 3, 4, 5, 6, 7] (by decide) rfl
        refine lv_aload_n hx hb dX5_hide_54 rfl (lv_at hl 1 rfl) ?_
        refine va_get (D := D) (ci := 5) (v := .ref (aQ 3)) (C := RX5) (T := TX5) (N := 10) hx hb hts iX5_hide_X5 hown hK.1 hP 0 rfl rfl 3 (by decide) (hts (.fieldLink RX5 31 "DarkPlace" "now" "LDarkPlace$Stand;") (List.mem_of_getElem? (i := 2) rfl)) (fun _ h9 => h9) rfl dX5_hide_55 ?_
        refine lv_iload_n hx hb dX5_hide_58 rfl (lv_at hl 2 rfl) ?_
        refine va_putN (D := D) (ci := 3) (v := .int v1) (ty := .int) (C := RX3) (T := TX3) (N := 9) hx hb hts iX5_hide_X3 tyX3 tyX3_ok nmX3 hown hK.1 hP hD hS 2 rfl rfl 4 (by decide) (va_Nw.use rfl (hK.2 (.fieldLinkNest "DarkPlace" 154 "DarkPlace$Stand" "hole" "I" "DarkPlace") (List.mem_of_getElem? (i := 11) rfl))) (fun _ h9 => h9) rfl (by decide +kernel) rfl rfl (Nat.le_of_ble_eq_true rfl) dX5_hide_59 (fun H locs hP hD hS => ?_)
        have hP : va_P D vwCl (wDp cy hQ aQ sdQ Q ++ wSt cy (aQ 3) aT (aQ 1) (upd T.1 4 v1, T.2) ++ wNt cy (aQ 1) aG G ++ wAo (aQ 5) bC (i51_0, C.2) ++ wPo cy bC 14 sa51 ++ wPl cy sa51 aa51 (aQ 1) g51_1) H := hP
        have hD : va_D A (wDp cy hQ aQ sdQ Q ++ wSt cy (aQ 3) aT (aQ 1) (upd T.1 4 v1, T.2) ++ wNt cy (aQ 1) aG G ++ wAo (aQ 5) bC (i51_0, C.2) ++ wPo cy bC 14 sa51 ++ wPl cy sa51 aa51 (aQ 1) g51_1) := hD
        refine lv_iload_n hx hb dX5_hide_62 rfl (lv_at hl 0 rfl) ?_
        have e := Option.some.inj hf
        simp only [Prod.mk.injEq] at e
        obtain ⟨e0, e1, e2, e3⟩ := e
        subst e1
        subst e2
        subst e3
        exact W.iret (v := T.1 4) hx hb hr (fun t ht hW => ⟨⟨T.1 4, (sa51, aa51), rfl, e0, by rw [ht]; exact hP, hD⟩, hS.F ht⟩) hS.2.2 dX5_hide_63
      · refine lv_bipush (v := (-3)) hx hb dX5_hide_40 (by decide) ?_
        have e := Option.some.inj hf
        simp only [Prod.mk.injEq] at e
        obtain ⟨e0, e1, e2, e3⟩ := e
        subst e1
        subst e2
        subst e3
        exact W.iret (v := (-3)) hx hb hr (fun t ht hW => ⟨⟨(-3), (sC, aC), rfl, e0, by rw [ht]; exact hP, hD⟩, hS.F ht⟩) hS.2.2 dX5_hide_42
  · refine lv_iconst (v := (-1)) hx hb dX5_hide_11 (by decide) ?_
    have e := Option.some.inj hf
    simp only [Prod.mk.injEq] at e
    obtain ⟨e0, e1, e2, e3⟩ := e
    subst e1
    subst e2
    subst e3
    exact W.iret (v := (-1)) hx hb hr (fun t ht hW => ⟨⟨(-1), (sC, aC), rfl, e0, by rw [ht]; exact hP, hD⟩, hS.F ht⟩) hS.2.2 dX5_hide_12
theorem iX5_undo_X0 : ∀ w ∈ wsX00, w ∈ wsX5_undo := fun _ h => List.mem_cons_of_mem _ (List.mem_append_left _ (List.mem_append_right _ h))
theorem iX5_undo_X5 : ∀ w ∈ wsX50, w ∈ wsX5_undo := fun _ h => List.mem_cons_of_mem _ (List.mem_append_left _ (List.mem_append_left _ (List.mem_append_right _ h)))
set_option maxHeartbeats 4000000 in
set_option maxRecDepth 100000 in
theorem kX5_undo (l : Launch) (D : va_G) (cy : Nat → ClassId) (hQ : Nat) (aQ : Nat → Nat) (sdQ : Int64) (aT : Nat → Nat) (bC : Nat) (sC : Nat → Nat) (aC : Nat → Nat → Nat) (sz : Nat) (Q : dk_O) (T : dk_O) (C : dk_O) (CB : Nat → dk_O)  (r : Int32) (oT_I : (Nat → Int32)) (oT_1 : (Nat → Int32)) (oT_2 : (Nat → Int32)) (oC_I : (Nat → Int32)) (hf : fX5_undo Q T C CB = some (r, oT_I, oT_1, oT_2, oC_I)) : dk_MuI l yX5_undo wsX5_undo ({ frames := 2, cells := 0, slots := 0, locals := 43 }) D cy [.ref hQ] (wDp cy hQ aQ sdQ Q ++ wSt cy (aQ 3) aT (aQ 1) T ++ wAo (aQ 5) bC C ++ wPo cy bC 14 sC ++ wPl cy sC aC (aQ 1) CB) (wDp cy hQ aQ sdQ Q ++ wSt cy (aQ 3) aT (aQ 1) (oT_I, dk_upA (dk_upA T.2 1 oT_1) 2 oT_2) ++ wAo (aQ 5) bC (oC_I, C.2) ++ wPo cy bC 14 sC ++ wPl cy sC aC (aQ 1) CB) sz r := by
  refine Met.ofW (cc := cX5_undo) (maxL := 1) (ret := (some .int)) (by decide) rfl ?_
  intro p e s m args below meth c s₁ B hml hv
  obtain ⟨rfl, hsz, hP, hK, hD0⟩ := hv
  have hx := B.exec
  have hb := B.bytes
  have hr := B.returns
  have hts := atoms_spec (ws := wsX5_undo) B.pre
  have hown : s.vm.findClass RX5 = some m.cls := findClass_of_methodNamed B.named
  have hlocks := B.notSynchronized
  subst hsz
  have hD := hD0.self (sz := s.heap.size)
  generalize hAe : va_A (wDp cy hQ aQ sdQ Q ++ wSt cy (aQ 3) aT (aQ 1) T ++ wAo (aQ 5) bC C ++ wPo cy bC 14 sC ++ wPl cy sC aC (aQ 1) CB) s.heap.size = A at hD ⊢
  have hA : ∀ q : Nat, s.heap.size ≤ q → A q := fun q h => by rw [← hAe]; exact Or.inr h
  have hS : va_S A s.heap s.heap [] := va_S.rf
  have hl := lv_entry ([.ref hQ]) (n := 1) (Nat.le_of_ble_eq_true rfl)
  rw [lg_entry_eq]
  generalize (lg_sl ([.ref hQ]) ++ List.replicate (1 - (lg_sl ([.ref hQ])).length) Slot.unset).toArray = ls at hl ⊢
  have hl : lv_has ls 1 [(0, .ref hQ)] := hl
  unfold fX5_undo at hf
  refine lv_aload_n hx hb dX5_undo_0 rfl (lv_at hl 0 rfl) ?_
  refine va_get (D := D) (ci := 5) (v := .ref (aQ 5)) (C := RX5) (T := TX5) (N := 10) hx hb hts iX5_undo_X5 hown hK.1 hP 0 rfl rfl 5 (by decide) (hts (.fieldLink RX5 41 "DarkPlace" "acts" "LDarkPlace$Acts;") (List.mem_of_getElem? (i := 1) rfl)) (fun _ h9 => h9) rfl dX5_undo_1 ?_
  refine va_getN (D := D) (ci := 0) (v := .int (C.1 1)) (C := RX0) (T := TX0) (N := 2) hx hb hts iX5_undo_X0 hown hK.1 hP 5 rfl rfl 1 (by decide) (va_Nw.use rfl (hK.2 (.fieldLinkNest "DarkPlace" 161 "DarkPlace$Acts" "size" "I" "DarkPlace") (List.mem_of_getElem? (i := 14) rfl))) (fun _ h9 => h9) rfl dX5_undo_4 ?_
  refine dk_ine (tgt := 13) hx hb dX5_undo_7 (by decide) hf (fun hf => ?_) (fun hf => ?_)
  · refine lv_aload_n hx hb dX5_undo_13 rfl (lv_at hl 0 rfl) ?_
    refine va_get (D := D) (ci := 5) (v := .ref (aQ 5)) (C := RX5) (T := TX5) (N := 10) hx hb hts iX5_undo_X5 hown hK.1 hP 0 rfl rfl 5 (by decide) (hts (.fieldLink RX5 41 "DarkPlace" "acts" "LDarkPlace$Acts;") (List.mem_of_getElem? (i := 1) rfl)) (fun _ h9 => h9) rfl dX5_undo_14 ?_
    refine lv_aload_n hx hb dX5_undo_17 rfl (lv_at hl 0 rfl) ?_
    refine va_get (D := D) (ci := 5) (v := .ref (aQ 3)) (C := RX5) (T := TX5) (N := 10) hx hb hts iX5_undo_X5 hown hK.1 hP 0 rfl rfl 3 (by decide) (hts (.fieldLink RX5 31 "DarkPlace" "now" "LDarkPlace$Stand;") (List.mem_of_getElem? (i := 2) rfl)) (fun _ h9 => h9) rfl dX5_undo_18 ?_
    obtain ⟨⟨r21, i21_0, i21_1, g21_2, g21_3⟩, k21, hf⟩ := dk_bind hf
    dsimp only at hf
    have hPc := hP.part (cx := wAo (aQ 5) bC C ++ wPo cy bC 14 sC ++ wSt cy (aQ 3) aT (aQ 1) T) [5, 6, 2, 3, 4] rfl
    have hDc := hD.part (cx := wAo (aQ 5) bC C ++ wPo cy bC 14 sC ++ wSt cy (aQ 3) aT (aQ 1) T) [5, 6, 2, 3, 4] (by decide) rfl
    have hFc := va_freeP (cx := wAo (aQ 5) bC C ++ wPo cy bC 14 sC ++ wSt cy (aQ 3) aT (aQ 1) T) hD hS hA [5, 6, 2, 3, 4] rfl
    refine va_calli (va_runV (As := [.ref (aQ 3)]) (rest := []) ⟨hx, hb, hml, hown, hts⟩ (kX0_takeBack l D cy (aQ 5) bC sC aC (aQ 1) (aQ 3) aT (aQ 1) s.heap.size C CB T r21 i21_0 i21_1 g21_2 g21_3 k21) (cwV 1 hts gX5_undo_X0_takeBack rfl rfl rfl (by decide +kernel) ⟨Nat.le_of_ble_eq_true rfl, Nat.le_of_ble_eq_true rfl⟩) (dk_premV hK hPc hDc (ci := 0) (q0 := 0) rfl rfl) rfl rfl hl.1 rfl (lv_room (Nat.le_of_ble_eq_true rfl)) dX5_undo_21 ⟨Nat.zero_le _, Nat.zero_le _⟩) hS (fun q _ h => hFc q h) hFc (fun xr21 u t H1 locs ht hvm hw hB hz1 hk1 hS => ?_)
    obtain ⟨hP1, hD1⟩ := hB
    rw [ht] at hP1
    rw [hw]
    obtain ⟨hP, hD⟩ := va_joinP (wr := ([0, 1] : List Nat).filterMap (fun i => (wDp cy hQ aQ sdQ Q ++ wSt cy (aQ 3) aT (aQ 1) T ++ wAo (aQ 5) bC C ++ wPo cy bC 14 sC)[i]?)) (rx := wAo (aQ 5) bC (i21_0, C.2) ++ wPo cy bC 14 sC ++ wSt cy (aQ 3) aT (aQ 1) (i21_1, dk_upA (dk_upA T.2 1 g21_2) 2 g21_3)) hP hD [5, 6, 2, 3, 4] [0, 1] rfl rfl (by decide) (by decide) hk1 hFc hP1 hD1
    generalize H1 = H at hP hS ⊢
    have hP : va_P D vwCl (wDp cy hQ aQ sdQ Q ++ wSt cy (aQ 3) aT (aQ 1) (i21_1, dk_upA (dk_upA T.2 1 g21_2) 2 g21_3) ++ wAo (aQ 5) bC (i21_0, C.2) ++ wPo cy bC 14 sC ++ wPl cy sC aC (aQ 1) CB) H := hP.part (cx := wDp cy hQ aQ sdQ Q ++ wSt cy (aQ 3) aT (aQ 1) (i21_1, dk_upA (dk_upA T.2 1 g21_2) 2 g21_3) ++ wAo (aQ 5) bC (i21_0, C.2) ++ wPo cy bC 14 sC) [0, 1, 4, 5, 6, 2, 3] rfl
    have hD : va_D A (wDp cy hQ aQ sdQ Q ++ wSt cy (aQ 3) aT (aQ 1) (i21_1, dk_upA (dk_upA T.2 1 g21_2) 2 g21_3) ++ wAo (aQ 5) bC (i21_0, C.2) ++ wPo cy bC 14 sC ++ wPl cy sC aC (aQ 1) CB) := hD.part (cx := wDp cy hQ aQ sdQ Q ++ wSt cy (aQ 3) aT (aQ 1) (i21_1, dk_upA (dk_upA T.2 1 g21_2) 2 g21_3) ++ wAo (aQ 5) bC (i21_0, C.2) ++ wPo cy bC 14 sC) [0, 1, 4, 5, 6, 2, 3] (by decide) rfl
    have e := Option.some.inj hf
    simp only [Prod.mk.injEq] at e
    obtain ⟨e0, e1, e2, e3, e4⟩ := e
    subst e1
    subst e2
    subst e3
    subst e4
    exact W.iret (v := r21) hx hb hr (fun t ht hW => ⟨⟨r21, (), rfl, e0, by rw [ht]; exact hP, hD⟩, hS.F ht⟩) hS.2.2 dX5_undo_24
  · refine lv_bipush (v := (-3)) hx hb dX5_undo_10 (by decide) ?_
    have e := Option.some.inj hf
    simp only [Prod.mk.injEq] at e
    obtain ⟨e0, e1, e2, e3, e4⟩ := e
    subst e1
    subst e2
    subst e3
    subst e4
    exact W.iret (v := (-3)) hx hb hr (fun t ht hW => ⟨⟨(-3), (), rfl, e0, by rw [ht]; exact hP, hD⟩, hS.F ht⟩) hS.2.2 dX5_undo_12
theorem iX5_worstPlace_X5 : ∀ w ∈ wsX50, w ∈ wsX5_worstPlace := fun _ h => List.mem_cons_of_mem _ (List.mem_append_left _ (List.mem_append_left _ (List.mem_append_right _ h)))
set_option maxHeartbeats 4000000 in
set_option maxRecDepth 100000 in
theorem kX5_worstPlace (l : Launch) (D : va_G) (cy : Nat → ClassId) (hQ : Nat) (aQ : Nat → Nat) (sdQ : Int64) (aT : Nat → Nat) (aG : Nat → Nat) (aU : Nat → Nat) (sz : Nat) (Q : dk_O) (T : dk_O) (G : dk_O) (U : dk_O)  (r : Int32) (oU_I : (Nat → Int32)) (oU_1 : (Nat → Int32)) (oU_2 : (Nat → Int32)) (hf : fX5_worstPlace Q T G U = some (r, oU_I, oU_1, oU_2)) : dk_MuI l yX5_worstPlace wsX5_worstPlace ({ frames := 5, cells := 0, slots := 0, locals := 117 }) D cy [.ref hQ] (wDp cy hQ aQ sdQ Q ++ wSt cy (aQ 3) aT (aQ 1) T ++ wNt cy (aQ 1) aG G ++ wSt cy (aQ 4) aU (aQ 1) U) (wDp cy hQ aQ sdQ Q ++ wSt cy (aQ 3) aT (aQ 1) T ++ wNt cy (aQ 1) aG G ++ wSt cy (aQ 4) aU (aQ 1) (oU_I, dk_upA (dk_upA U.2 1 oU_1) 2 oU_2)) sz r := by
  refine Met.ofW (cc := cX5_worstPlace) (maxL := 7) (ret := (some .int)) (by decide) rfl ?_
  intro p e s m args below meth c s₁ B hml hv
  obtain ⟨rfl, hsz, hP, hK, hD0⟩ := hv
  have hx := B.exec
  have hb := B.bytes
  have hr := B.returns
  have hts := atoms_spec (ws := wsX5_worstPlace) B.pre
  have hown : s.vm.findClass RX5 = some m.cls := findClass_of_methodNamed B.named
  have hlocks := B.notSynchronized
  subst hsz
  have hD := hD0.self (sz := s.heap.size)
  generalize hAe : va_A (wDp cy hQ aQ sdQ Q ++ wSt cy (aQ 3) aT (aQ 1) T ++ wNt cy (aQ 1) aG G ++ wSt cy (aQ 4) aU (aQ 1) U) s.heap.size = A at hD ⊢
  have hA : ∀ q : Nat, s.heap.size ≤ q → A q := fun q h => by rw [← hAe]; exact Or.inr h
  have hS : va_S A s.heap s.heap [] := va_S.rf
  have hl := lv_entry ([.ref hQ]) (n := 7) (Nat.le_of_ble_eq_true rfl)
  rw [lg_entry_eq]
  generalize (lg_sl ([.ref hQ]) ++ List.replicate (7 - (lg_sl ([.ref hQ])).length) Slot.unset).toArray = ls at hl ⊢
  have hl : lv_has ls 7 [(0, .ref hQ)] := hl
  have L16 : ∀ (fu16 : Nat) (x1 : Int32) (x2 : Int32) (x3 : Int32) (x4 : Int32) (U_I : (Nat → Int32)) (U_1 : (Nat → Int32)) (U_2 : (Nat → Int32)) (H : Heap) (locs : List Loc) (ls : Array Slot), va_P D vwCl (wDp cy hQ aQ sdQ Q ++ wSt cy (aQ 3) aT (aQ 1) T ++ wNt cy (aQ 1) aG G ++ wSt cy (aQ 4) aU (aQ 1) (U_I, dk_upA (dk_upA U.2 1 U_1) 2 U_2)) H → va_D A (wDp cy hQ aQ sdQ Q ++ wSt cy (aQ 3) aT (aQ 1) T ++ wNt cy (aQ 1) aG G ++ wSt cy (aQ 4) aU (aQ 1) (U_I, dk_upA (dk_upA U.2 1 U_1) 2 U_2)) → va_S A s.heap H locs → lv_has ls 7 [(0, .ref hQ), (1, .int x1), (2, .int x2), (3, .int x3), (4, .int x4)] → fX5_worstPlace_L16 Q T G U fu16 x1 x2 x3 x4 U_I U_1 U_2 = some (r, oU_I, oU_1, oU_2) → W p l e (headSpec wsX5_worstPlace ({ frames := 5, cells := 0, slots := 0, locals := 117 })).room s m ([.ref hQ]).toArray below meth c H locs 0 0 (MQ below (va_Qi (fun (x : Int32) (_ : Unit) => x = r) (dk_B D (wDp cy hQ aQ sdQ Q ++ wSt cy (aQ 3) aT (aQ 1) T ++ wNt cy (aQ 1) aG G ++ wSt cy (aQ 4) aU (aQ 1) (oU_I, dk_upA (dk_upA U.2 1 oU_1) 2 oU_2)) A) A) ([.ref hQ]).toArray s 0 0 A) (F0 m 16 ls []) := by
    intro fu16
    induction fu16 with
    | zero =>
      intro x1 x2 x3 x4 U_I U_1 U_2 H locs ls hP hD hS hl hf
      rw [fX5_worstPlace_L16] at hf
      cases hf
    | succ fu16 ih16 =>
      intro x1 x2 x3 x4 U_I U_1 U_2 H locs ls hP hD hS hl hf
      rw [fX5_worstPlace_L16] at hf
      have L68 : ∀ (x1 : Int32) (x2 : Int32) (x3 : Int32) (x4 : Int32) (s0 : Int32) (U_I : (Nat → Int32)) (U_1 : (Nat → Int32)) (U_2 : (Nat → Int32)) (H : Heap) (locs : List Loc) (ls : Array Slot), va_P D vwCl (wDp cy hQ aQ sdQ Q ++ wSt cy (aQ 3) aT (aQ 1) T ++ wNt cy (aQ 1) aG G ++ wSt cy (aQ 4) aU (aQ 1) (U_I, dk_upA (dk_upA U.2 1 U_1) 2 U_2)) H → va_D A (wDp cy hQ aQ sdQ Q ++ wSt cy (aQ 3) aT (aQ 1) T ++ wNt cy (aQ 1) aG G ++ wSt cy (aQ 4) aU (aQ 1) (U_I, dk_upA (dk_upA U.2 1 U_1) 2 U_2)) → va_S A s.heap H locs → lv_has ls 7 [(0, .ref hQ), (1, .int x1), (2, .int x2), (3, .int x3), (4, .int x4)] → fX5_worstPlace_L68 Q T G U (fun z0 z1 z2 z3 z4 z5 z6 => fX5_worstPlace_L16 Q T G U fu16 z0 z1 z2 z3 z4 z5 z6) x1 x2 x3 x4 s0 U_I U_1 U_2 = some (r, oU_I, oU_1, oU_2) → W p l e (headSpec wsX5_worstPlace ({ frames := 5, cells := 0, slots := 0, locals := 117 })).room s m ([.ref hQ]).toArray below meth c H locs 0 0 (MQ below (va_Qi (fun (x : Int32) (_ : Unit) => x = r) (dk_B D (wDp cy hQ aQ sdQ Q ++ wSt cy (aQ 3) aT (aQ 1) T ++ wNt cy (aQ 1) aG G ++ wSt cy (aQ 4) aU (aQ 1) (oU_I, dk_upA (dk_upA U.2 1 oU_1) 2 oU_2)) A) A) ([.ref hQ]).toArray s 0 0 A) (F0 m 68 ls [.int s0]) := by
        intro x1 x2 x3 x4 s0 U_I U_1 U_2 H locs ls hP hD hS hl hf
        unfold fX5_worstPlace_L68 at hf
        refine lv_istore (lv' := [(6, .int s0), (0, .ref hQ), (1, .int x1), (2, .int x2), (3, .int x3), (4, .int x4)]) hx hb dX5_worstPlace_68 hl (by decide) rfl (fun ls hl => ?_)
        refine lv_iload hx hb dX5_worstPlace_70 (lv_at hl 0 rfl) ?_
        refine lv_iload_n hx hb dX5_worstPlace_72 rfl (lv_at hl 4 rfl) ?_
        refine dk_cle (tgt := 82) hx hb dX5_worstPlace_73 (by decide) hf (fun hf => ?_) (fun hf => ?_)
        · refine lv_iinc (v := x4 + 1) (lv' := [(4, .int (x4 + 1)), (6, .int s0), (0, .ref hQ), (1, .int x1), (2, .int x2), (3, .int x3)]) hx hb dX5_worstPlace_82 hl (k := 5) rfl rfl (by decide) rfl (fun ls hl => ?_)
          refine lv_goto (tgt := 16) hx hb dX5_worstPlace_85 (by decide) ?_
          exact ih16 x1 x2 x3 (x4 + 1) U_I U_1 U_2 _ _ _ hP hD hS (lv_sub hl [2, 3, 4, 5, 0] rfl) hf
        · refine lv_iload hx hb dX5_worstPlace_76 (lv_at hl 0 rfl) ?_
          refine lv_istore_n (lv' := [(3, .int s0), (6, .int s0), (0, .ref hQ), (1, .int x1), (2, .int x2), (4, .int x4)]) hx hb dX5_worstPlace_78 rfl hl (by decide) rfl (fun ls hl => ?_)
          refine lv_iload hx hb dX5_worstPlace_79 (lv_at hl 5 rfl) ?_
          refine lv_istore_n (lv' := [(2, .int x4), (3, .int s0), (6, .int s0), (0, .ref hQ), (1, .int x1), (4, .int x4)]) hx hb dX5_worstPlace_81 rfl hl (by decide) rfl (fun ls hl => ?_)
          refine lv_iinc (v := x4 + 1) (lv' := [(4, .int (x4 + 1)), (2, .int x4), (3, .int s0), (6, .int s0), (0, .ref hQ), (1, .int x1)]) hx hb dX5_worstPlace_82 hl (k := 5) rfl rfl (by decide) rfl (fun ls hl => ?_)
          refine lv_goto (tgt := 16) hx hb dX5_worstPlace_85 (by decide) ?_
          exact ih16 x1 x4 s0 (x4 + 1) U_I U_1 U_2 _ _ _ hP hD hS (lv_sub hl [4, 5, 1, 2, 0] rfl) hf
      refine lv_iload hx hb dX5_worstPlace_16 (lv_at hl 4 rfl) ?_
      refine lv_bipush (v := 8) hx hb dX5_worstPlace_18 (by decide) ?_
      refine dk_cge (tgt := 88) hx hb dX5_worstPlace_20 (by decide) hf (fun hf => ?_) (fun hf => ?_)
      · refine lv_iload_n hx hb dX5_worstPlace_88 rfl (lv_at hl 2 rfl) ?_
        have e := Option.some.inj hf
        simp only [Prod.mk.injEq] at e
        obtain ⟨e0, e1, e2, e3⟩ := e
        subst e1
        subst e2
        subst e3
        exact W.iret (v := x2) hx hb hr (fun t ht hW => ⟨⟨x2, (), rfl, e0, by rw [ht]; exact hP, hD⟩, hS.F ht⟩) hS.2.2 dX5_worstPlace_89
      · refine lv_iload_n hx hb dX5_worstPlace_23 rfl (lv_at hl 1 rfl) ?_
        refine lv_iload hx hb dX5_worstPlace_24 (lv_at hl 4 rfl) ?_
        obtain ⟨r26, k26, hf⟩ := dk_bind hf
        refine dk_ri (va_runS (As := [.int x1, .int x4]) (rest := []) ⟨hx, hb, hml, hown, hts⟩ (kX5_holds l D cy x1 x4 r26 k26) (va_cwS 2 hts gX5_worstPlace_X5_holds rfl rfl rfl (by decide +kernel) ⟨Nat.le_of_ble_eq_true rfl, Nat.le_of_ble_eq_true rfl⟩) (dk_preS hK (hP.sub (ws' := []) [] rfl)) rfl rfl hl.1 rfl (lv_room (Nat.le_of_ble_eq_true rfl)) dX5_worstPlace_26 ⟨Nat.zero_le _, Nat.zero_le _⟩) ?_
        refine dk_ieq (tgt := 82) hx hb dX5_worstPlace_29 (by decide) hf (fun hf => ?_) (fun hf => ?_)
        · refine lv_iinc (v := x4 + 1) (lv' := [(4, .int (x4 + 1)), (0, .ref hQ), (1, .int x1), (2, .int x2), (3, .int x3)]) hx hb dX5_worstPlace_82 hl (k := 4) rfl rfl (by decide) rfl (fun ls hl => ?_)
          refine lv_goto (tgt := 16) hx hb dX5_worstPlace_85 (by decide) ?_
          exact ih16 x1 x2 x3 (x4 + 1) U_I U_1 U_2 _ _ _ hP hD hS (lv_sub hl [1, 2, 3, 4, 0] rfl) hf
        · refine lv_aload_n hx hb dX5_worstPlace_32 rfl (lv_at hl 0 rfl) ?_
          refine va_get (D := D) (ci := 5) (v := .ref (aQ 4)) (C := RX5) (T := TX5) (N := 10) hx hb hts iX5_worstPlace_X5 hown hK.1 hP 0 rfl rfl 4 (by decide) (hts (.fieldLink RX5 35 "DarkPlace" "trial" "LDarkPlace$Stand;") (List.mem_of_getElem? (i := 2) rfl)) (fun _ h9 => h9) rfl dX5_worstPlace_33 ?_
          refine lv_aload_n hx hb dX5_worstPlace_36 rfl (lv_at hl 0 rfl) ?_
          refine va_get (D := D) (ci := 5) (v := .ref (aQ 3)) (C := RX5) (T := TX5) (N := 10) hx hb hts iX5_worstPlace_X5 hown hK.1 hP 0 rfl rfl 3 (by decide) (hts (.fieldLink RX5 31 "DarkPlace" "now" "LDarkPlace$Stand;") (List.mem_of_getElem? (i := 1) rfl)) (fun _ h9 => h9) rfl dX5_worstPlace_37 ?_
          refine lv_iload hx hb dX5_worstPlace_40 (lv_at hl 4 rfl) ?_
          obtain ⟨⟨i42_0, g42_1, g42_2⟩, k42, hf⟩ := dk_bind hf
          dsimp only at hf
          have hPc := hP.sub (ws' := wSt cy (aQ 4) aU (aQ 1) (U_I, dk_upA (dk_upA U.2 1 U_1) 2 U_2) ++ wSt cy (aQ 3) aT (aQ 1) T) [9, 10, 11, 2, 3, 4] rfl
          have hDc := hD.sub (ws' := wSt cy (aQ 4) aU (aQ 1) (U_I, dk_upA (dk_upA U.2 1 U_1) 2 U_2) ++ wSt cy (aQ 3) aT (aQ 1) T) [9, 10, 11, 2, 3, 4] (by decide) rfl
          have hFc := va_free (wc := wSt cy (aQ 4) aU (aQ 1) (U_I, dk_upA (dk_upA U.2 1 U_1) 2 U_2) ++ wSt cy (aQ 3) aT (aQ 1) T) hD hS hA [9, 10, 11, 2, 3, 4] rfl
          refine va_callv (va_runV (As := [.ref (aQ 3), .int x4]) (rest := []) ⟨hx, hb, hml, hown, hts⟩ (kX3_suppose l D cy (aQ 4) aU (aQ 1) (aQ 3) aT (aQ 1) H.size (U_I, dk_upA (dk_upA U.2 1 U_1) 2 U_2) T x4 i42_0 g42_1 g42_2 k42) (cwV 2 hts gX5_worstPlace_X3_suppose rfl rfl rfl (by decide +kernel) ⟨Nat.le_of_ble_eq_true rfl, Nat.le_of_ble_eq_true rfl⟩) (dk_premV hK hPc hDc (ci := 3) (q0 := 0) rfl rfl) rfl rfl hl.1 rfl (lv_room (Nat.le_of_ble_eq_true rfl)) dX5_worstPlace_42 ⟨Nat.zero_le _, Nat.zero_le _⟩) hS (fun q _ h => hFc q h) hFc (fun u t H1 locs ht hvm hw hB hz1 hk1 hS => ?_)
          obtain ⟨hP1, hD1⟩ := hB
          rw [ht] at hP1
          obtain ⟨hP, hD⟩ := va_join (wr := ([0, 1, 5, 6, 7, 8] : List Nat).filterMap (fun i => (wDp cy hQ aQ sdQ Q ++ wSt cy (aQ 3) aT (aQ 1) T ++ wNt cy (aQ 1) aG G ++ wSt cy (aQ 4) aU (aQ 1) (U_I, dk_upA (dk_upA U.2 1 U_1) 2 U_2))[i]?)) (w1 := wSt cy (aQ 4) aU (aQ 1) (i42_0, dk_upA (dk_upA U.2 1 g42_1) 2 g42_2) ++ wSt cy (aQ 3) aT (aQ 1) T) hP hD [9, 10, 11, 2, 3, 4] [0, 1, 5, 6, 7, 8] rfl rfl (by decide) (by decide) hk1 hFc hP1 hD1
          generalize H1 = H at hP hS ⊢
          have hP : va_P D vwCl (wDp cy hQ aQ sdQ Q ++ wSt cy (aQ 3) aT (aQ 1) T ++ wNt cy (aQ 1) aG G ++ wSt cy (aQ 4) aU (aQ 1) (i42_0, dk_upA (dk_upA U.2 1 g42_1) 2 g42_2)) H := hP.sub [0, 1, 9, 10, 11, 2, 3, 4, 5, 6, 7, 8] rfl
          have hD : va_D A (wDp cy hQ aQ sdQ Q ++ wSt cy (aQ 3) aT (aQ 1) T ++ wNt cy (aQ 1) aG G ++ wSt cy (aQ 4) aU (aQ 1) (i42_0, dk_upA (dk_upA U.2 1 g42_1) 2 g42_2)) := hD.sub [0, 1, 9, 10, 11, 2, 3, 4, 5, 6, 7, 8] (by decide) rfl
          refine lv_aload_n hx hb dX5_worstPlace_45 rfl (lv_at hl 0 rfl) ?_
          refine va_get (D := D) (ci := 5) (v := .ref (aQ 4)) (C := RX5) (T := TX5) (N := 10) hx hb hts iX5_worstPlace_X5 hown hK.1 hP 0 rfl rfl 4 (by decide) (hts (.fieldLink RX5 35 "DarkPlace" "trial" "LDarkPlace$Stand;") (List.mem_of_getElem? (i := 2) rfl)) (fun _ h9 => h9) rfl dX5_worstPlace_46 ?_
          obtain ⟨⟨r49, i49_0, g49_1, g49_2⟩, k49, hf⟩ := dk_bind hf
          dsimp only at hf
          have hPc := hP.sub (ws' := wSt cy (aQ 4) aU (aQ 1) (i42_0, dk_upA (dk_upA U.2 1 g42_1) 2 g42_2) ++ wNt cy (aQ 1) aG G) [9, 10, 11, 5, 6, 7, 8] rfl
          have hDc := hD.sub (ws' := wSt cy (aQ 4) aU (aQ 1) (i42_0, dk_upA (dk_upA U.2 1 g42_1) 2 g42_2) ++ wNt cy (aQ 1) aG G) [9, 10, 11, 5, 6, 7, 8] (by decide) rfl
          have hFc := va_free (wc := wSt cy (aQ 4) aU (aQ 1) (i42_0, dk_upA (dk_upA U.2 1 g42_1) 2 g42_2) ++ wNt cy (aQ 1) aG G) hD hS hA [9, 10, 11, 5, 6, 7, 8] rfl
          refine va_calli (va_runV (As := []) (rest := []) ⟨hx, hb, hml, hown, hts⟩ (kX3_playTillKnown l D cy (aQ 4) aU (aQ 1) aG H.size (i42_0, dk_upA (dk_upA U.2 1 g42_1) 2 g42_2) G r49 i49_0 g49_1 g49_2 k49) (cwV 0 hts gX5_worstPlace_X3_playTillKnown rfl rfl rfl (by decide +kernel) ⟨Nat.le_of_ble_eq_true rfl, Nat.le_of_ble_eq_true rfl⟩) (dk_premV hK hPc hDc (ci := 3) (q0 := 0) rfl rfl) rfl rfl hl.1 rfl (lv_room (Nat.le_of_ble_eq_true rfl)) dX5_worstPlace_49 ⟨Nat.zero_le _, Nat.zero_le _⟩) hS (fun q _ h => hFc q h) hFc (fun xr49 u t H1 locs ht hvm hw hB hz1 hk1 hS => ?_)
          obtain ⟨hP1, hD1⟩ := hB
          rw [ht] at hP1
          rw [hw]
          obtain ⟨hP, hD⟩ := va_join (wr := ([0, 1, 2, 3, 4] : List Nat).filterMap (fun i => (wDp cy hQ aQ sdQ Q ++ wSt cy (aQ 3) aT (aQ 1) T ++ wNt cy (aQ 1) aG G ++ wSt cy (aQ 4) aU (aQ 1) (i42_0, dk_upA (dk_upA U.2 1 g42_1) 2 g42_2))[i]?)) (w1 := wSt cy (aQ 4) aU (aQ 1) (i49_0, dk_upA (dk_upA U.2 1 g49_1) 2 g49_2) ++ wNt cy (aQ 1) aG G) hP hD [9, 10, 11, 5, 6, 7, 8] [0, 1, 2, 3, 4] rfl rfl (by decide) (by decide) hk1 hFc hP1 hD1
          generalize H1 = H at hP hS ⊢
          have hP : va_P D vwCl (wDp cy hQ aQ sdQ Q ++ wSt cy (aQ 3) aT (aQ 1) T ++ wNt cy (aQ 1) aG G ++ wSt cy (aQ 4) aU (aQ 1) (i49_0, dk_upA (dk_upA U.2 1 g49_1) 2 g49_2)) H := hP.sub [0, 1, 2, 3, 4, 8, 9, 10, 11, 5, 6, 7] rfl
          have hD : va_D A (wDp cy hQ aQ sdQ Q ++ wSt cy (aQ 3) aT (aQ 1) T ++ wNt cy (aQ 1) aG G ++ wSt cy (aQ 4) aU (aQ 1) (i49_0, dk_upA (dk_upA U.2 1 g49_1) 2 g49_2)) := hD.sub [0, 1, 2, 3, 4, 8, 9, 10, 11, 5, 6, 7] (by decide) rfl
          refine lv_istore (lv' := [(5, .int r49), (0, .ref hQ), (1, .int x1), (2, .int x2), (3, .int x3), (4, .int x4)]) hx hb dX5_worstPlace_52 hl (by decide) rfl (fun ls hl => ?_)
          refine lv_iload hx hb dX5_worstPlace_54 (lv_at hl 0 rfl) ?_
          refine lv_bipush (v := (-9)) hx hb dX5_worstPlace_56 (by decide) ?_
          refine dk_cne (tgt := 66) hx hb dX5_worstPlace_58 (by decide) hf (fun hf => ?_) (fun hf => ?_)
          · refine lv_iload hx hb dX5_worstPlace_66 (lv_at hl 0 rfl) ?_
            exact L68 x1 x2 x3 x4 r49 i49_0 g49_1 g49_2 _ _ _ hP hD hS (lv_sub hl [1, 2, 3, 4, 5] rfl) hf
          · refine lv_bipush (v := 61) hx hb dX5_worstPlace_61 (by decide) ?_
            refine lv_goto (tgt := 68) hx hb dX5_worstPlace_63 (by decide) ?_
            exact L68 x1 x2 x3 x4 61 i49_0 g49_1 g49_2 _ _ _ hP hD hS (lv_sub hl [1, 2, 3, 4, 5] rfl) hf
  unfold fX5_worstPlace at hf
  refine lv_aload_n hx hb dX5_worstPlace_0 rfl (lv_at hl 0 rfl) ?_
  refine va_get (D := D) (ci := 5) (v := .ref (aQ 3)) (C := RX5) (T := TX5) (N := 10) hx hb hts iX5_worstPlace_X5 hown hK.1 hP 0 rfl rfl 3 (by decide) (hts (.fieldLink RX5 31 "DarkPlace" "now" "LDarkPlace$Stand;") (List.mem_of_getElem? (i := 1) rfl)) (fun _ h9 => h9) rfl dX5_worstPlace_1 ?_
  obtain ⟨r4, k4, hf⟩ := dk_bind hf
  refine dk_ri (va_runV (As := []) (rest := []) ⟨hx, hb, hml, hown, hts⟩ (kX3_fated l D cy (aQ 3) aT (aQ 1) aG T G r4 k4) (cwV 0 hts gX5_worstPlace_X3_fated rfl rfl rfl (by decide +kernel) ⟨Nat.le_of_ble_eq_true rfl, Nat.le_of_ble_eq_true rfl⟩) (dk_preV hK (hP.sub (ws' := wSt cy (aQ 3) aT (aQ 1) T ++ wNt cy (aQ 1) aG G) [2, 3, 4, 5, 6, 7, 8] rfl) (ci := 3) (q0 := 0) rfl rfl) rfl rfl hl.1 rfl (lv_room (Nat.le_of_ble_eq_true rfl)) dX5_worstPlace_4 ⟨Nat.zero_le _, Nat.zero_le _⟩) ?_
  refine lv_istore_n (lv' := [(1, .int r4), (0, .ref hQ)]) hx hb dX5_worstPlace_7 rfl hl (by decide) rfl (fun ls hl => ?_)
  refine lv_bipush (v := (-9)) hx hb dX5_worstPlace_8 (by decide) ?_
  refine lv_istore_n (lv' := [(2, .int (-9)), (1, .int r4), (0, .ref hQ)]) hx hb dX5_worstPlace_10 rfl hl (by decide) rfl (fun ls hl => ?_)
  refine lv_iconst (v := (-1)) hx hb dX5_worstPlace_11 (by decide) ?_
  refine lv_istore_n (lv' := [(3, .int (-1)), (2, .int (-9)), (1, .int r4), (0, .ref hQ)]) hx hb dX5_worstPlace_12 rfl hl (by decide) rfl (fun ls hl => ?_)
  refine lv_iconst (v := 0) hx hb dX5_worstPlace_13 (by decide) ?_
  refine lv_istore (lv' := [(4, .int 0), (3, .int (-1)), (2, .int (-9)), (1, .int r4), (0, .ref hQ)]) hx hb dX5_worstPlace_14 hl (by decide) rfl (fun ls hl => ?_)
  exact L16 1000 r4 (-9) (-1) 0 U.1 (U.2 1) (U.2 2) _ _ _ hP hD hS (lv_sub hl [4, 3, 2, 1, 0] rfl) hf
